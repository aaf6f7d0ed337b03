set_option maxRecDepth 100000 in
theorem e115_0 {L : Lo} {S : List Value} {h : Hp} {v : Nat} : Run 115 0 (some (.ref v) :: L) S h = Run 115 1 (some (.ref v) :: L) (.ref v :: S) h := Rg rfl
set_option maxRecDepth 100000 in
theorem e115_1 {L : Lo} {h : Hp} {a0 : Nat} : Run 115 1 L [.ref a0] h = Run 115 4 L [] h := Rg rfl
set_option maxRecDepth 100000 in
theorem e115_4 {L : Lo} {S : List Value} {h : Hp} {v : Nat} : Run 115 4 (some (.ref v) :: L) S h = Run 115 5 (some (.ref v) :: L) (.ref v :: S) h := Rg rfl
set_option maxRecDepth 100000 in
theorem e115_5 {L : Lo} {S : List Value} {h : Hp} : Run 115 5 L S h = Run 115 8 L (.int 270 :: S) h := Rg rfl
set_option maxRecDepth 100000 in
theorem e115_8 {L : Lo} {S : List Value} {h : Hp} {N : Int32} (hN : ¬ N < 0 ∧ N.toNatClampNeg ≤ 60000) : Run 115 8 L (.int N :: S) h = Run 115 10 L (.ref h.1 :: S) (hnew h (blank0 0 N.toNatClampNeg) N.toNatClampNeg) := Rg (if_pos hN)
set_option maxRecDepth 100000 in
theorem e115_10 {L : Lo} {S : List Value} {h : Hp} {b : Nat} {v : Value} : Run 115 10 L (v :: .ref b :: S) h = (pf h 9 0 b v).bind fun h1 => Run 115 13 L S h1 := Rb rfl fun _ => rfl
set_option maxRecDepth 100000 in
theorem e115_13 {L : Lo} {S : List Value} {h : Hp} {v : Nat} : Run 115 13 (some (.ref v) :: L) S h = Run 115 14 (some (.ref v) :: L) (.ref v :: S) h := Rg rfl
set_option maxRecDepth 100000 in
theorem e115_14 {L : Lo} {S : List Value} {h : Hp} : Run 115 14 L S h = Run 115 17 L (.int 1080 :: S) h := Rg rfl
set_option maxRecDepth 100000 in
theorem e115_17 {L : Lo} {S : List Value} {h : Hp} {N : Int32} (hN : ¬ N < 0 ∧ N.toNatClampNeg ≤ 60000) : Run 115 17 L (.int N :: S) h = Run 115 19 L (.ref h.1 :: S) (hnew h (blank0 0 N.toNatClampNeg) N.toNatClampNeg) := Rg (if_pos hN)
set_option maxRecDepth 100000 in
theorem e115_19 {L : Lo} {S : List Value} {h : Hp} {b : Nat} {v : Value} : Run 115 19 L (v :: .ref b :: S) h = (pf h 9 1 b v).bind fun h1 => Run 115 22 L S h1 := Rb rfl fun _ => rfl
set_option maxRecDepth 100000 in
theorem e115_22 {L : Lo} {S : List Value} {h : Hp} {v : Nat} : Run 115 22 (some (.ref v) :: L) S h = Run 115 23 (some (.ref v) :: L) (.ref v :: S) h := Rg rfl
set_option maxRecDepth 100000 in
theorem e115_23 {L : Lo} {S : List Value} {h : Hp} : Run 115 23 L S h = Run 115 26 L (.int 150 :: S) h := Rg rfl
set_option maxRecDepth 100000 in
theorem e115_26 {L : Lo} {S : List Value} {h : Hp} {N : Int32} (hN : ¬ N < 0 ∧ N.toNatClampNeg ≤ 60000) : Run 115 26 L (.int N :: S) h = Run 115 28 L (.ref h.1 :: S) (hnew h (blank0 0 N.toNatClampNeg) N.toNatClampNeg) := Rg (if_pos hN)
set_option maxRecDepth 100000 in
theorem e115_28 {L : Lo} {S : List Value} {h : Hp} {b : Nat} {v : Value} : Run 115 28 L (v :: .ref b :: S) h = (pf h 9 3 b v).bind fun h1 => Run 115 31 L S h1 := Rb rfl fun _ => rfl
set_option maxRecDepth 100000 in
theorem e115_31 {L : Lo} {S : List Value} {h : Hp} {v : Nat} : Run 115 31 (some (.ref v) :: L) S h = Run 115 32 (some (.ref v) :: L) (.ref v :: S) h := Rg rfl
set_option maxRecDepth 100000 in
theorem e115_32 {L : Lo} {S : List Value} {h : Hp} : Run 115 32 L S h = Run 115 35 L (.int 1728 :: S) h := Rg rfl
set_option maxRecDepth 100000 in
theorem e115_35 {L : Lo} {S : List Value} {h : Hp} {N : Int32} (hN : ¬ N < 0 ∧ N.toNatClampNeg ≤ 60000) : Run 115 35 L (.int N :: S) h = Run 115 37 L (.ref h.1 :: S) (hnew h (blank0 0 N.toNatClampNeg) N.toNatClampNeg) := Rg (if_pos hN)
set_option maxRecDepth 100000 in
theorem e115_37 {L : Lo} {S : List Value} {h : Hp} {b : Nat} {v : Value} : Run 115 37 L (v :: .ref b :: S) h = (pf h 9 6 b v).bind fun h1 => Run 115 40 L S h1 := Rb rfl fun _ => rfl
set_option maxRecDepth 100000 in
theorem e115_40 {L : Lo} {S : List Value} {h : Hp} {v : Nat} : Run 115 40 (some (.ref v) :: L) S h = Run 115 41 (some (.ref v) :: L) (.ref v :: S) h := Rg rfl
set_option maxRecDepth 100000 in
theorem e115_41 {L : Lo} {S : List Value} {h : Hp} : Run 115 41 L S h = Run 115 43 L (.int 10 :: S) h := Rg rfl
set_option maxRecDepth 100000 in
theorem e115_43 {L : Lo} {S : List Value} {h : Hp} : Run 115 43 L S h = Run 115 45 L (.int 8 :: S) h := Rg rfl
set_option maxRecDepth 100000 in
theorem e115_45 {L : Lo} {h : Hp} {a2 : Int32} {a1 : Int32} {a0 : Nat} (hO : isO h a0 9 = true) : Run 115 45 L [.int a2, .int a1, .ref a0] h = (Run 116 0 [some (.ref a0), some (.int a1), some (.int a2), none] [] h).bind fun o => aft 115 45 48 L [] o := Rcv (c := 116) (As := [.int a1, .int a2]) (S' := []) (pc' := 48) 9 rfl hO
set_option maxRecDepth 100000 in
theorem e115_48 {L : Lo} {h : Hp} : Run 115 48 L [] h = some (.inl none, h) := Rd rfl
set_option maxRecDepth 100000 in
theorem e116_0 {L : Lo} {S : List Value} {h : Hp} : Run 116 0 L S h = Run 116 1 L (.int 0 :: S) h := Rg rfl
set_option maxRecDepth 100000 in
theorem e116_1 {L : Lo} {S : List Value} {h : Hp} {x0 x1 x2 : Option Value} {y : Option Value} {v : Int32} : Run 116 1 (x0 :: x1 :: x2 :: y :: L) (.int v :: S) h = Run 116 2 (x0 :: x1 :: ck x2 :: some (.int v) :: L) S h := Rg rfl
set_option maxRecDepth 100000 in
theorem e116_2 {L : Lo} {S : List Value} {h : Hp} {x0 x1 x2 : Option Value} {v : Int32} : Run 116 2 (x0 :: x1 :: x2 :: some (.int v) :: L) S h = Run 116 3 (x0 :: x1 :: x2 :: some (.int v) :: L) (.int v :: S) h := Rg rfl
set_option maxRecDepth 100000 in
theorem e116_3 {L : Lo} {S : List Value} {h : Hp} : Run 116 3 L S h = Run 116 6 L (.int 270 :: S) h := Rg rfl
set_option maxRecDepth 100000 in
theorem e116_6 {L : Lo} {S : List Value} {h : Hp} {x z : Int32} : Run 116 6 L (.int z :: .int x :: S) h = if z ≤ x then Run 116 22 L S h else Run 116 9 L S h := Rbr (c := cnd .ge x z = true) (off := 16) rfl rfl cnd_ge
set_option maxRecDepth 100000 in
theorem e116_9 {L : Lo} {S : List Value} {h : Hp} {v : Nat} : Run 116 9 (some (.ref v) :: L) S h = Run 116 10 (some (.ref v) :: L) (.ref v :: S) h := Rg rfl
set_option maxRecDepth 100000 in
theorem e116_10 {L : Lo} {S : List Value} {h : Hp} {b : Nat} : Run 116 10 L (.ref b :: S) h = (gf h 9 0 b).bind fun v => Run 116 13 L (v :: S) h := Rb rfl fun _ => rfl
set_option maxRecDepth 100000 in
theorem e116_13 {L : Lo} {S : List Value} {h : Hp} {x0 x1 x2 : Option Value} {v : Int32} : Run 116 13 (x0 :: x1 :: x2 :: some (.int v) :: L) S h = Run 116 14 (x0 :: x1 :: x2 :: some (.int v) :: L) (.int v :: S) h := Rg rfl
set_option maxRecDepth 100000 in
theorem e116_14 {L : Lo} {S : List Value} {h : Hp} : Run 116 14 L S h = Run 116 15 L (.int 0 :: S) h := Rg rfl
set_option maxRecDepth 100000 in
theorem e116_15 {L : Lo} {S : List Value} {h : Hp} {v : Int32} {i : Int32} {b : Nat} : Run 116 15 L (.int v :: .int i :: .ref b :: S) h = (paI h b i v).bind fun h1 => Run 116 16 L S h1 := Rb rfl fun _ => rfl
set_option maxRecDepth 100000 in
theorem e116_16 {L : Lo} {S : List Value} {h : Hp} {x0 x1 x2 : Option Value} {v : Int32} : Run 116 16 (x0 :: x1 :: x2 :: some (.int v) :: L) S h = Run 116 19 (x0 :: x1 :: x2 :: some (.int (v + 1)) :: L) S h := Rg rfl
set_option maxRecDepth 100000 in
theorem e116_19 {L : Lo} {S : List Value} {h : Hp} : Run 116 19 L S h = Run 116 2 L S h := Rg rfl
set_option maxRecDepth 100000 in
theorem e116_22 {L : Lo} {S : List Value} {h : Hp} {v : Nat} : Run 116 22 (some (.ref v) :: L) S h = Run 116 23 (some (.ref v) :: L) (.ref v :: S) h := Rg rfl
set_option maxRecDepth 100000 in
theorem e116_23 {L : Lo} {S : List Value} {h : Hp} {b : Nat} : Run 116 23 L (.ref b :: S) h = (gf h 9 0 b).bind fun v => Run 116 26 L (v :: S) h := Rb rfl fun _ => rfl
set_option maxRecDepth 100000 in
theorem e116_26 {L : Lo} {S : List Value} {h : Hp} : Run 116 26 L S h = Run 116 27 L (.int 0 :: S) h := Rg rfl
set_option maxRecDepth 100000 in
theorem e116_27 {L : Lo} {S : List Value} {h : Hp} {x0 : Option Value} {v : Int32} : Run 116 27 (x0 :: some (.int v) :: L) S h = Run 116 28 (x0 :: some (.int v) :: L) (.int v :: S) h := Rg rfl
set_option maxRecDepth 100000 in
theorem e116_28 {L : Lo} {S : List Value} {h : Hp} {v : Int32} {i : Int32} {b : Nat} : Run 116 28 L (.int v :: .int i :: .ref b :: S) h = (paI h b i v).bind fun h1 => Run 116 29 L S h1 := Rb rfl fun _ => rfl
set_option maxRecDepth 100000 in
theorem e116_29 {L : Lo} {S : List Value} {h : Hp} {v : Nat} : Run 116 29 (some (.ref v) :: L) S h = Run 116 30 (some (.ref v) :: L) (.ref v :: S) h := Rg rfl
set_option maxRecDepth 100000 in
theorem e116_30 {L : Lo} {S : List Value} {h : Hp} {b : Nat} : Run 116 30 L (.ref b :: S) h = (gf h 9 0 b).bind fun v => Run 116 33 L (v :: S) h := Rb rfl fun _ => rfl
set_option maxRecDepth 100000 in
theorem e116_33 {L : Lo} {S : List Value} {h : Hp} : Run 116 33 L S h = Run 116 34 L (.int 1 :: S) h := Rg rfl
set_option maxRecDepth 100000 in
theorem e116_34 {L : Lo} {S : List Value} {h : Hp} {x0 x1 : Option Value} {v : Int32} : Run 116 34 (x0 :: x1 :: some (.int v) :: L) S h = Run 116 35 (x0 :: x1 :: some (.int v) :: L) (.int v :: S) h := Rg rfl
set_option maxRecDepth 100000 in
theorem e116_35 {L : Lo} {S : List Value} {h : Hp} {v : Int32} {i : Int32} {b : Nat} : Run 116 35 L (.int v :: .int i :: .ref b :: S) h = (paI h b i v).bind fun h1 => Run 116 36 L S h1 := Rb rfl fun _ => rfl
set_option maxRecDepth 100000 in
theorem e116_36 {L : Lo} {S : List Value} {h : Hp} {v : Nat} : Run 116 36 (some (.ref v) :: L) S h = Run 116 37 (some (.ref v) :: L) (.ref v :: S) h := Rg rfl
set_option maxRecDepth 100000 in
theorem e116_37 {L : Lo} {S : List Value} {h : Hp} {b : Nat} : Run 116 37 L (.ref b :: S) h = (gf h 9 0 b).bind fun v => Run 116 40 L (v :: S) h := Rb rfl fun _ => rfl
set_option maxRecDepth 100000 in
theorem e116_40 {L : Lo} {S : List Value} {h : Hp} : Run 116 40 L S h = Run 116 41 L (.int 3 :: S) h := Rg rfl
set_option maxRecDepth 100000 in
theorem e116_41 {L : Lo} {S : List Value} {h : Hp} : Run 116 41 L S h = Run 116 42 L (.int 2 :: S) h := Rg rfl
set_option maxRecDepth 100000 in
theorem e116_42 {L : Lo} {S : List Value} {h : Hp} {v : Int32} {i : Int32} {b : Nat} : Run 116 42 L (.int v :: .int i :: .ref b :: S) h = (paI h b i v).bind fun h1 => Run 116 43 L S h1 := Rb rfl fun _ => rfl
set_option maxRecDepth 100000 in
theorem e116_43 {L : Lo} {S : List Value} {h : Hp} {v : Nat} : Run 116 43 (some (.ref v) :: L) S h = Run 116 44 (some (.ref v) :: L) (.ref v :: S) h := Rg rfl
set_option maxRecDepth 100000 in
theorem e116_44 {L : Lo} {S : List Value} {h : Hp} {b : Nat} : Run 116 44 L (.ref b :: S) h = (gf h 9 0 b).bind fun v => Run 116 47 L (v :: S) h := Rb rfl fun _ => rfl
set_option maxRecDepth 100000 in
theorem e116_47 {L : Lo} {S : List Value} {h : Hp} : Run 116 47 L S h = Run 116 48 L (.int 4 :: S) h := Rg rfl
set_option maxRecDepth 100000 in
theorem e116_48 {L : Lo} {S : List Value} {h : Hp} : Run 116 48 L S h = Run 116 49 L (.int 1 :: S) h := Rg rfl
set_option maxRecDepth 100000 in
theorem e116_49 {L : Lo} {S : List Value} {h : Hp} {v : Int32} {i : Int32} {b : Nat} : Run 116 49 L (.int v :: .int i :: .ref b :: S) h = (paI h b i v).bind fun h1 => Run 116 50 L S h1 := Rb rfl fun _ => rfl
set_option maxRecDepth 100000 in
theorem e116_50 {L : Lo} {h : Hp} : Run 116 50 L [] h = some (.inl none, h) := Rd rfl
set_option maxRecDepth 100000 in
theorem e117_0 {L : Lo} {S : List Value} {h : Hp} {v : Nat} : Run 117 0 (some (.ref v) :: L) S h = Run 117 1 (some (.ref v) :: L) (.ref v :: S) h := Rg rfl
set_option maxRecDepth 100000 in
theorem e117_1 {L : Lo} {S : List Value} {h : Hp} {b : Nat} : Run 117 1 L (.ref b :: S) h = (gf h 9 5 b).bind fun v => Run 117 4 L (v :: S) h := Rb rfl fun _ => rfl
set_option maxRecDepth 100000 in
theorem e117_4 {L : Lo} {h : Hp} {x : Int32} : Run 117 4 L [.int x] h = some (.inl (some (.int x)), h) := Rd (if_pos (c := narrow .int (.int x) = .int x) rfl)
set_option maxRecDepth 100000 in
theorem e118_0 {L : Lo} {S : List Value} {h : Hp} {v : Int32} : Run 118 0 (some (.int v) :: L) S h = Run 118 1 (some (.int v) :: L) (.int v :: S) h := Rg rfl
set_option maxRecDepth 100000 in
theorem e118_1 {L : Lo} {S : List Value} {h : Hp} {x0 : Option Value} {v : Int32} : Run 118 1 (x0 :: some (.int v) :: L) S h = Run 118 2 (x0 :: some (.int v) :: L) (.int v :: S) h := Rg rfl
set_option maxRecDepth 100000 in
theorem e118_2 {L : Lo} {S : List Value} {h : Hp} {x z : Int32} : Run 118 2 L (.int z :: .int x :: S) h = if x < z then Run 118 14 L S h else Run 118 5 L S h := Rbr (c := cnd .lt x z = true) (off := 12) rfl rfl cnd_lt
set_option maxRecDepth 100000 in
theorem e118_5 {L : Lo} {S : List Value} {h : Hp} {v : Int32} : Run 118 5 (some (.int v) :: L) S h = Run 118 6 (some (.int v) :: L) (.int v :: S) h := Rg rfl
set_option maxRecDepth 100000 in
theorem e118_6 {L : Lo} {S : List Value} {h : Hp} {x0 x1 : Option Value} {v : Int32} : Run 118 6 (x0 :: x1 :: some (.int v) :: L) S h = Run 118 7 (x0 :: x1 :: some (.int v) :: L) (.int v :: S) h := Rg rfl
set_option maxRecDepth 100000 in
theorem e118_7 {L : Lo} {S : List Value} {h : Hp} {x z : Int32} : Run 118 7 L (.int z :: .int x :: S) h = if z < x then Run 118 14 L S h else Run 118 10 L S h := Rbr (c := cnd .gt x z = true) (off := 7) rfl rfl cnd_gt
set_option maxRecDepth 100000 in
theorem e118_10 {L : Lo} {S : List Value} {h : Hp} : Run 118 10 L S h = Run 118 11 L (.int 1 :: S) h := Rg rfl
set_option maxRecDepth 100000 in
theorem e118_11 {L : Lo} {S : List Value} {h : Hp} : Run 118 11 L S h = Run 118 15 L S h := Rg rfl
set_option maxRecDepth 100000 in
theorem e118_14 {L : Lo} {S : List Value} {h : Hp} : Run 118 14 L S h = Run 118 15 L (.int 0 :: S) h := Rg rfl
set_option maxRecDepth 100000 in
theorem e118_15 {L : Lo} {h : Hp} {x : Int32} (hx : narrow .boolean (.int x) = .int x) : Run 118 15 L [.int x] h = some (.inl (some (.int x)), h) := Rd (if_pos hx)
set_option maxRecDepth 100000 in
theorem e119_0 {L : Lo} {S : List Value} {h : Hp} {v : Int32} : Run 119 0 (some (.int v) :: L) S h = Run 119 1 (some (.int v) :: L) (.int v :: S) h := Rg rfl
set_option maxRecDepth 100000 in
theorem e119_1 {L : Lo} {S : List Value} {h : Hp} {x : Int32} : Run 119 1 L (.int x :: S) h = if 0 ≤ x then Run 119 9 L S h else Run 119 4 L S h := Rbr (c := cnd .ge x 0 = true) (off := 8) rfl rfl cnd_ge
set_option maxRecDepth 100000 in
theorem e119_4 {L : Lo} {S : List Value} {h : Hp} {v : Int32} : Run 119 4 (some (.int v) :: L) S h = Run 119 5 (some (.int v) :: L) (.int v :: S) h := Rg rfl
set_option maxRecDepth 100000 in
theorem e119_5 {L : Lo} {S : List Value} {h : Hp} {x : Int32} : Run 119 5 L (.int x :: S) h = Run 119 6 L (.int (-x) :: S) h := Rg rfl
set_option maxRecDepth 100000 in
theorem e119_6 {L : Lo} {S : List Value} {h : Hp} : Run 119 6 L S h = Run 119 10 L S h := Rg rfl
set_option maxRecDepth 100000 in
theorem e119_9 {L : Lo} {S : List Value} {h : Hp} {v : Int32} : Run 119 9 (some (.int v) :: L) S h = Run 119 10 (some (.int v) :: L) (.int v :: S) h := Rg rfl
set_option maxRecDepth 100000 in
theorem e119_10 {L : Lo} {h : Hp} {x : Int32} : Run 119 10 L [.int x] h = some (.inl (some (.int x)), h) := Rd (if_pos (c := narrow .int (.int x) = .int x) rfl)
set_option maxRecDepth 100000 in
theorem e120_0 {L : Lo} {S : List Value} {h : Hp} {v : Int32} : Run 120 0 (some (.int v) :: L) S h = Run 120 1 (some (.int v) :: L) (.int v :: S) h := Rg rfl
set_option maxRecDepth 100000 in
theorem e120_1 {L : Lo} {S : List Value} {h : Hp} {x0 : Option Value} {v : Int32} : Run 120 1 (x0 :: some (.int v) :: L) S h = Run 120 2 (x0 :: some (.int v) :: L) (.int v :: S) h := Rg rfl
set_option maxRecDepth 100000 in
theorem e120_2 {L : Lo} {S : List Value} {h : Hp} {x z : Int32} : Run 120 2 L (.int z :: .int x :: S) h = if z ≤ x then Run 120 9 L S h else Run 120 5 L S h := Rbr (c := cnd .ge x z = true) (off := 7) rfl rfl cnd_ge
set_option maxRecDepth 100000 in
theorem e120_5 {L : Lo} {S : List Value} {h : Hp} {v : Int32} : Run 120 5 (some (.int v) :: L) S h = Run 120 6 (some (.int v) :: L) (.int v :: S) h := Rg rfl
set_option maxRecDepth 100000 in
theorem e120_6 {L : Lo} {S : List Value} {h : Hp} : Run 120 6 L S h = Run 120 10 L S h := Rg rfl
set_option maxRecDepth 100000 in
theorem e120_9 {L : Lo} {S : List Value} {h : Hp} {x0 : Option Value} {v : Int32} : Run 120 9 (x0 :: some (.int v) :: L) S h = Run 120 10 (x0 :: some (.int v) :: L) (.int v :: S) h := Rg rfl
set_option maxRecDepth 100000 in
theorem e120_10 {L : Lo} {h : Hp} {x : Int32} : Run 120 10 L [.int x] h = some (.inl (some (.int x)), h) := Rd (if_pos (c := narrow .int (.int x) = .int x) rfl)
set_option maxRecDepth 100000 in
theorem e121_0 {L : Lo} {S : List Value} {h : Hp} {v : Nat} : Run 121 0 (some (.ref v) :: L) S h = Run 121 1 (some (.ref v) :: L) (.ref v :: S) h := Rg rfl
set_option maxRecDepth 100000 in
theorem e121_1 {L : Lo} {S : List Value} {h : Hp} {b : Nat} : Run 121 1 L (.ref b :: S) h = (gf h 9 2 b).bind fun v => Run 121 4 L (v :: S) h := Rb rfl fun _ => rfl
set_option maxRecDepth 100000 in
theorem e121_4 {L : Lo} {S : List Value} {h : Hp} : Run 121 4 L S h = Run 121 5 L (.int 4 :: S) h := Rg rfl
set_option maxRecDepth 100000 in
theorem e121_5 {L : Lo} {S : List Value} {h : Hp} {x z : Int32} : Run 121 5 L (.int z :: .int x :: S) h = if x = z then Run 121 8 L S h else Run 121 49 L S h := RbrN (c := cnd .ne x z = true) (off := 44) rfl rfl cnd_ne
set_option maxRecDepth 100000 in
theorem e121_8 {L : Lo} {S : List Value} {h : Hp} : Run 121 8 L S h = Run 121 9 L (.int 0 :: S) h := Rg rfl
set_option maxRecDepth 100000 in
theorem e121_9 {L : Lo} {S : List Value} {h : Hp} {x0 : Option Value} {y : Option Value} {v : Int32} : Run 121 9 (x0 :: y :: L) (.int v :: S) h = Run 121 10 (ck x0 :: some (.int v) :: L) S h := Rg rfl
set_option maxRecDepth 100000 in
theorem e121_10 {L : Lo} {S : List Value} {h : Hp} {x0 : Option Value} {v : Int32} : Run 121 10 (x0 :: some (.int v) :: L) S h = Run 121 11 (x0 :: some (.int v) :: L) (.int v :: S) h := Rg rfl
set_option maxRecDepth 100000 in
theorem e121_11 {L : Lo} {S : List Value} {h : Hp} : Run 121 11 L S h = Run 121 14 L (.int 810 :: S) h := Rg rfl
set_option maxRecDepth 100000 in
theorem e121_14 {L : Lo} {S : List Value} {h : Hp} {x z : Int32} : Run 121 14 L (.int z :: .int x :: S) h = if z ≤ x then Run 121 39 L S h else Run 121 17 L S h := Rbr (c := cnd .ge x z = true) (off := 25) rfl rfl cnd_ge
set_option maxRecDepth 100000 in
theorem e121_17 {L : Lo} {S : List Value} {h : Hp} {v : Nat} : Run 121 17 (some (.ref v) :: L) S h = Run 121 18 (some (.ref v) :: L) (.ref v :: S) h := Rg rfl
set_option maxRecDepth 100000 in
theorem e121_18 {L : Lo} {S : List Value} {h : Hp} {b : Nat} : Run 121 18 L (.ref b :: S) h = (gf h 9 1 b).bind fun v => Run 121 21 L (v :: S) h := Rb rfl fun _ => rfl
set_option maxRecDepth 100000 in
theorem e121_21 {L : Lo} {S : List Value} {h : Hp} {x0 : Option Value} {v : Int32} : Run 121 21 (x0 :: some (.int v) :: L) S h = Run 121 22 (x0 :: some (.int v) :: L) (.int v :: S) h := Rg rfl
set_option maxRecDepth 100000 in
theorem e121_22 {L : Lo} {S : List Value} {h : Hp} {v : Nat} : Run 121 22 (some (.ref v) :: L) S h = Run 121 23 (some (.ref v) :: L) (.ref v :: S) h := Rg rfl
set_option maxRecDepth 100000 in
theorem e121_23 {L : Lo} {S : List Value} {h : Hp} {b : Nat} : Run 121 23 L (.ref b :: S) h = (gf h 9 1 b).bind fun v => Run 121 26 L (v :: S) h := Rb rfl fun _ => rfl
set_option maxRecDepth 100000 in
theorem e121_26 {L : Lo} {S : List Value} {h : Hp} {x0 : Option Value} {v : Int32} : Run 121 26 (x0 :: some (.int v) :: L) S h = Run 121 27 (x0 :: some (.int v) :: L) (.int v :: S) h := Rg rfl
set_option maxRecDepth 100000 in
theorem e121_27 {L : Lo} {S : List Value} {h : Hp} : Run 121 27 L S h = Run 121 30 L (.int 270 :: S) h := Rg rfl
set_option maxRecDepth 100000 in
theorem e121_30 {L : Lo} {S : List Value} {h : Hp} {x z : Int32} : Run 121 30 L (.int z :: .int x :: S) h = Run 121 31 L (.int (x + z) :: S) h := Rg rfl
set_option maxRecDepth 100000 in
theorem e121_31 {L : Lo} {S : List Value} {h : Hp} {i : Int32} {b : Nat} : Run 121 31 L (.int i :: .ref b :: S) h = (gaI h b i).bind fun v => Run 121 32 L (.int v :: S) h := Rb rfl fun _ => rfl
set_option maxRecDepth 100000 in
theorem e121_32 {L : Lo} {S : List Value} {h : Hp} {v : Int32} {i : Int32} {b : Nat} : Run 121 32 L (.int v :: .int i :: .ref b :: S) h = (paI h b i v).bind fun h1 => Run 121 33 L S h1 := Rb rfl fun _ => rfl
set_option maxRecDepth 100000 in
theorem e121_33 {L : Lo} {S : List Value} {h : Hp} {x0 : Option Value} {v : Int32} : Run 121 33 (x0 :: some (.int v) :: L) S h = Run 121 36 (x0 :: some (.int (v + 1)) :: L) S h := Rg rfl
set_option maxRecDepth 100000 in
theorem e121_36 {L : Lo} {S : List Value} {h : Hp} : Run 121 36 L S h = Run 121 10 L S h := Rg rfl
set_option maxRecDepth 100000 in
theorem e121_39 {L : Lo} {S : List Value} {h : Hp} {v : Nat} : Run 121 39 (some (.ref v) :: L) S h = Run 121 40 (some (.ref v) :: L) (.ref v :: S) h := Rg rfl
set_option maxRecDepth 100000 in
theorem e121_40 {L : Lo} {S : List Value} {h : Hp} {v : Nat} : Run 121 40 L (.ref v :: S) h = Run 121 41 L (.ref v :: .ref v :: S) h := Rg rfl
set_option maxRecDepth 100000 in
theorem e121_41 {L : Lo} {S : List Value} {h : Hp} {b : Nat} : Run 121 41 L (.ref b :: S) h = (gf h 9 2 b).bind fun v => Run 121 44 L (v :: S) h := Rb rfl fun _ => rfl
set_option maxRecDepth 100000 in
theorem e121_44 {L : Lo} {S : List Value} {h : Hp} : Run 121 44 L S h = Run 121 45 L (.int 1 :: S) h := Rg rfl
set_option maxRecDepth 100000 in
theorem e121_45 {L : Lo} {S : List Value} {h : Hp} {x z : Int32} : Run 121 45 L (.int z :: .int x :: S) h = Run 121 46 L (.int (x - z) :: S) h := Rg rfl
set_option maxRecDepth 100000 in
theorem e121_46 {L : Lo} {S : List Value} {h : Hp} {b : Nat} {v : Value} : Run 121 46 L (v :: .ref b :: S) h = (pf h 9 2 b v).bind fun h1 => Run 121 49 L S h1 := Rb rfl fun _ => rfl
set_option maxRecDepth 100000 in
theorem e121_49 {L : Lo} {S : List Value} {h : Hp} : Run 121 49 L S h = Run 121 50 L (.int 0 :: S) h := Rg rfl
set_option maxRecDepth 100000 in
theorem e121_50 {L : Lo} {S : List Value} {h : Hp} {x0 : Option Value} {y : Option Value} {v : Int32} : Run 121 50 (x0 :: y :: L) (.int v :: S) h = Run 121 51 (ck x0 :: some (.int v) :: L) S h := Rg rfl
set_option maxRecDepth 100000 in
theorem e121_51 {L : Lo} {S : List Value} {h : Hp} {x0 : Option Value} {v : Int32} : Run 121 51 (x0 :: some (.int v) :: L) S h = Run 121 52 (x0 :: some (.int v) :: L) (.int v :: S) h := Rg rfl
set_option maxRecDepth 100000 in
theorem e121_52 {L : Lo} {S : List Value} {h : Hp} : Run 121 52 L S h = Run 121 55 L (.int 270 :: S) h := Rg rfl
set_option maxRecDepth 100000 in
theorem e121_55 {L : Lo} {S : List Value} {h : Hp} {x z : Int32} : Run 121 55 L (.int z :: .int x :: S) h = if z ≤ x then Run 121 85 L S h else Run 121 58 L S h := Rbr (c := cnd .ge x z = true) (off := 30) rfl rfl cnd_ge
set_option maxRecDepth 100000 in
theorem e121_58 {L : Lo} {S : List Value} {h : Hp} {v : Nat} : Run 121 58 (some (.ref v) :: L) S h = Run 121 59 (some (.ref v) :: L) (.ref v :: S) h := Rg rfl
set_option maxRecDepth 100000 in
theorem e121_59 {L : Lo} {S : List Value} {h : Hp} {b : Nat} : Run 121 59 L (.ref b :: S) h = (gf h 9 1 b).bind fun v => Run 121 62 L (v :: S) h := Rb rfl fun _ => rfl
set_option maxRecDepth 100000 in
theorem e121_62 {L : Lo} {S : List Value} {h : Hp} : Run 121 62 L S h = Run 121 65 L (.int 270 :: S) h := Rg rfl
set_option maxRecDepth 100000 in
theorem e121_65 {L : Lo} {S : List Value} {h : Hp} {v : Nat} : Run 121 65 (some (.ref v) :: L) S h = Run 121 66 (some (.ref v) :: L) (.ref v :: S) h := Rg rfl
set_option maxRecDepth 100000 in
theorem e121_66 {L : Lo} {S : List Value} {h : Hp} {b : Nat} : Run 121 66 L (.ref b :: S) h = (gf h 9 2 b).bind fun v => Run 121 69 L (v :: S) h := Rb rfl fun _ => rfl
set_option maxRecDepth 100000 in
theorem e121_69 {L : Lo} {S : List Value} {h : Hp} {x z : Int32} : Run 121 69 L (.int z :: .int x :: S) h = Run 121 70 L (.int (x * z) :: S) h := Rg rfl
set_option maxRecDepth 100000 in
theorem e121_70 {L : Lo} {S : List Value} {h : Hp} {x0 : Option Value} {v : Int32} : Run 121 70 (x0 :: some (.int v) :: L) S h = Run 121 71 (x0 :: some (.int v) :: L) (.int v :: S) h := Rg rfl
set_option maxRecDepth 100000 in
theorem e121_71 {L : Lo} {S : List Value} {h : Hp} {x z : Int32} : Run 121 71 L (.int z :: .int x :: S) h = Run 121 72 L (.int (x + z) :: S) h := Rg rfl
set_option maxRecDepth 100000 in
theorem e121_72 {L : Lo} {S : List Value} {h : Hp} {v : Nat} : Run 121 72 (some (.ref v) :: L) S h = Run 121 73 (some (.ref v) :: L) (.ref v :: S) h := Rg rfl
set_option maxRecDepth 100000 in
theorem e121_73 {L : Lo} {S : List Value} {h : Hp} {b : Nat} : Run 121 73 L (.ref b :: S) h = (gf h 9 0 b).bind fun v => Run 121 76 L (v :: S) h := Rb rfl fun _ => rfl
set_option maxRecDepth 100000 in
theorem e121_76 {L : Lo} {S : List Value} {h : Hp} {x0 : Option Value} {v : Int32} : Run 121 76 (x0 :: some (.int v) :: L) S h = Run 121 77 (x0 :: some (.int v) :: L) (.int v :: S) h := Rg rfl
set_option maxRecDepth 100000 in
theorem e121_77 {L : Lo} {S : List Value} {h : Hp} {i : Int32} {b : Nat} : Run 121 77 L (.int i :: .ref b :: S) h = (gaI h b i).bind fun v => Run 121 78 L (.int v :: S) h := Rb rfl fun _ => rfl
set_option maxRecDepth 100000 in
theorem e121_78 {L : Lo} {S : List Value} {h : Hp} {v : Int32} {i : Int32} {b : Nat} : Run 121 78 L (.int v :: .int i :: .ref b :: S) h = (paI h b i v).bind fun h1 => Run 121 79 L S h1 := Rb rfl fun _ => rfl
set_option maxRecDepth 100000 in
theorem e121_79 {L : Lo} {S : List Value} {h : Hp} {x0 : Option Value} {v : Int32} : Run 121 79 (x0 :: some (.int v) :: L) S h = Run 121 82 (x0 :: some (.int (v + 1)) :: L) S h := Rg rfl
set_option maxRecDepth 100000 in
theorem e121_82 {L : Lo} {S : List Value} {h : Hp} : Run 121 82 L S h = Run 121 51 L S h := Rg rfl
set_option maxRecDepth 100000 in
theorem e121_85 {L : Lo} {S : List Value} {h : Hp} {v : Nat} : Run 121 85 (some (.ref v) :: L) S h = Run 121 86 (some (.ref v) :: L) (.ref v :: S) h := Rg rfl
set_option maxRecDepth 100000 in
theorem e121_86 {L : Lo} {S : List Value} {h : Hp} {v : Nat} : Run 121 86 L (.ref v :: S) h = Run 121 87 L (.ref v :: .ref v :: S) h := Rg rfl
set_option maxRecDepth 100000 in
theorem e121_87 {L : Lo} {S : List Value} {h : Hp} {b : Nat} : Run 121 87 L (.ref b :: S) h = (gf h 9 2 b).bind fun v => Run 121 90 L (v :: S) h := Rb rfl fun _ => rfl
set_option maxRecDepth 100000 in
theorem e121_90 {L : Lo} {S : List Value} {h : Hp} : Run 121 90 L S h = Run 121 91 L (.int 1 :: S) h := Rg rfl
set_option maxRecDepth 100000 in
theorem e121_91 {L : Lo} {S : List Value} {h : Hp} {x z : Int32} : Run 121 91 L (.int z :: .int x :: S) h = Run 121 92 L (.int (x + z) :: S) h := Rg rfl
set_option maxRecDepth 100000 in
theorem e121_92 {L : Lo} {S : List Value} {h : Hp} {b : Nat} {v : Value} : Run 121 92 L (v :: .ref b :: S) h = (pf h 9 2 b v).bind fun h1 => Run 121 95 L S h1 := Rb rfl fun _ => rfl
set_option maxRecDepth 100000 in
theorem e121_95 {L : Lo} {h : Hp} : Run 121 95 L [] h = some (.inl none, h) := Rd rfl
set_option maxRecDepth 100000 in
theorem e122_0 {L : Lo} {S : List Value} {h : Hp} {v : Nat} : Run 122 0 (some (.ref v) :: L) S h = Run 122 1 (some (.ref v) :: L) (.ref v :: S) h := Rg rfl
set_option maxRecDepth 100000 in
theorem e122_1 {L : Lo} {S : List Value} {h : Hp} {b : Nat} : Run 122 1 L (.ref b :: S) h = (gf h 9 0 b).bind fun v => Run 122 4 L (v :: S) h := Rb rfl fun _ => rfl
set_option maxRecDepth 100000 in
theorem e122_4 {L : Lo} {S : List Value} {h : Hp} : Run 122 4 L S h = Run 122 5 L (.int 0 :: S) h := Rg rfl
set_option maxRecDepth 100000 in
theorem e122_5 {L : Lo} {S : List Value} {h : Hp} {i : Int32} {b : Nat} : Run 122 5 L (.int i :: .ref b :: S) h = (gaI h b i).bind fun v => Run 122 6 L (.int v :: S) h := Rb rfl fun _ => rfl
set_option maxRecDepth 100000 in
theorem e122_6 {L : Lo} {S : List Value} {h : Hp} {v : Nat} : Run 122 6 (some (.ref v) :: L) S h = Run 122 7 (some (.ref v) :: L) (.ref v :: S) h := Rg rfl
set_option maxRecDepth 100000 in
theorem e122_7 {L : Lo} {S : List Value} {h : Hp} {b : Nat} : Run 122 7 L (.ref b :: S) h = (gf h 9 0 b).bind fun v => Run 122 10 L (v :: S) h := Rb rfl fun _ => rfl
set_option maxRecDepth 100000 in
theorem e122_10 {L : Lo} {S : List Value} {h : Hp} : Run 122 10 L S h = Run 122 11 L (.int 1 :: S) h := Rg rfl
set_option maxRecDepth 100000 in
theorem e122_11 {L : Lo} {S : List Value} {h : Hp} {i : Int32} {b : Nat} : Run 122 11 L (.int i :: .ref b :: S) h = (gaI h b i).bind fun v => Run 122 12 L (.int v :: S) h := Rb rfl fun _ => rfl
set_option maxRecDepth 100000 in
theorem e122_12 {L : Lo} {S : List Value} {h : Hp} {x z : Int32} : Run 122 12 L (.int z :: .int x :: S) h = Run 122 13 L (.int (x * z) :: S) h := Rg rfl
set_option maxRecDepth 100000 in
theorem e122_13 {L : Lo} {h : Hp} {x : Int32} : Run 122 13 L [.int x] h = some (.inl (some (.int x)), h) := Rd (if_pos (c := narrow .int (.int x) = .int x) rfl)
set_option maxRecDepth 100000 in
theorem e123_0 {L : Lo} {S : List Value} {h : Hp} {x0 : Option Value} {v : Int32} : Run 123 0 (x0 :: some (.int v) :: L) S h = Run 123 1 (x0 :: some (.int v) :: L) (.int v :: S) h := Rg rfl
set_option maxRecDepth 100000 in
theorem e123_1 {L : Lo} {S : List Value} {h : Hp} : Run 123 1 L S h = Run 123 2 L (.int 0 :: S) h := Rg rfl
set_option maxRecDepth 100000 in
theorem e123_2 {L : Lo} {S : List Value} {h : Hp} {v : Nat} : Run 123 2 (some (.ref v) :: L) S h = Run 123 3 (some (.ref v) :: L) (.ref v :: S) h := Rg rfl
set_option maxRecDepth 100000 in
theorem e123_3 {L : Lo} {h : Hp} {a2 : Nat} {a1 : Int32} {a0 : Int32} (hO : isO h a2 9 = true) : Run 123 3 L [.ref a2, .int a1, .int a0] h = (Run 122 0 [some (.ref a2)] [] h).bind fun o => aft 123 3 6 L [.int a1, .int a0] o := Rcv (c := 122) (As := []) (S' := [.int a1, .int a0]) (pc' := 6) 9 rfl hO
set_option maxRecDepth 100000 in
theorem e123_6 {L : Lo} {S : List Value} {h : Hp} : Run 123 6 L S h = Run 123 7 L (.int 1 :: S) h := Rg rfl
set_option maxRecDepth 100000 in
theorem e123_7 {L : Lo} {S : List Value} {h : Hp} {x z : Int32} : Run 123 7 L (.int z :: .int x :: S) h = Run 123 8 L (.int (x - z) :: S) h := Rg rfl
set_option maxRecDepth 100000 in
theorem e123_8 {L : Lo} {h : Hp} {a2 : Int32} {a1 : Int32} {a0 : Int32} : Run 123 8 L [.int a2, .int a1, .int a0] h = (Run 118 0 [some (.int a0), some (.int a1), some (.int a2)] [] h).bind fun o => aft 123 8 11 L [] o := Rc (c := 118) (As := [.int a0, .int a1, .int a2]) (S' := []) (pc' := 11) rfl
set_option maxRecDepth 100000 in
theorem e123_11 {L : Lo} {h : Hp} {x : Int32} (hx : narrow .boolean (.int x) = .int x) : Run 123 11 L [.int x] h = some (.inl (some (.int x)), h) := Rd (if_pos hx)
set_option maxRecDepth 100000 in
theorem e124_0 {L : Lo} {S : List Value} {h : Hp} {x0 : Option Value} {v : Int32} : Run 124 0 (x0 :: some (.int v) :: L) S h = Run 124 1 (x0 :: some (.int v) :: L) (.int v :: S) h := Rg rfl
set_option maxRecDepth 100000 in
theorem e124_1 {L : Lo} {S : List Value} {h : Hp} : Run 124 1 L S h = Run 124 2 L (.int 0 :: S) h := Rg rfl
set_option maxRecDepth 100000 in
theorem e124_2 {L : Lo} {S : List Value} {h : Hp} {v : Nat} : Run 124 2 (some (.ref v) :: L) S h = Run 124 3 (some (.ref v) :: L) (.ref v :: S) h := Rg rfl
set_option maxRecDepth 100000 in
theorem e124_3 {L : Lo} {S : List Value} {h : Hp} {b : Nat} : Run 124 3 L (.ref b :: S) h = (gf h 9 0 b).bind fun v => Run 124 6 L (v :: S) h := Rb rfl fun _ => rfl
set_option maxRecDepth 100000 in
theorem e124_6 {L : Lo} {S : List Value} {h : Hp} : Run 124 6 L S h = Run 124 7 L (.int 5 :: S) h := Rg rfl
set_option maxRecDepth 100000 in
theorem e124_7 {L : Lo} {S : List Value} {h : Hp} {i : Int32} {b : Nat} : Run 124 7 L (.int i :: .ref b :: S) h = (gaI h b i).bind fun v => Run 124 8 L (.int v :: S) h := Rb rfl fun _ => rfl
set_option maxRecDepth 100000 in
theorem e124_8 {L : Lo} {S : List Value} {h : Hp} : Run 124 8 L S h = Run 124 9 L (.int 1 :: S) h := Rg rfl
set_option maxRecDepth 100000 in
theorem e124_9 {L : Lo} {S : List Value} {h : Hp} {x z : Int32} : Run 124 9 L (.int z :: .int x :: S) h = Run 124 10 L (.int (x - z) :: S) h := Rg rfl
set_option maxRecDepth 100000 in
theorem e124_10 {L : Lo} {h : Hp} {a2 : Int32} {a1 : Int32} {a0 : Int32} : Run 124 10 L [.int a2, .int a1, .int a0] h = (Run 118 0 [some (.int a0), some (.int a1), some (.int a2)] [] h).bind fun o => aft 124 10 13 L [] o := Rc (c := 118) (As := [.int a0, .int a1, .int a2]) (S' := []) (pc' := 13) rfl
set_option maxRecDepth 100000 in
theorem e124_13 {L : Lo} {h : Hp} {x : Int32} (hx : narrow .boolean (.int x) = .int x) : Run 124 13 L [.int x] h = some (.inl (some (.int x)), h) := Rd (if_pos hx)
set_option maxRecDepth 100000 in
theorem e125_0 {L : Lo} {S : List Value} {h : Hp} {v : Nat} : Run 125 0 (some (.ref v) :: L) S h = Run 125 1 (some (.ref v) :: L) (.ref v :: S) h := Rg rfl
set_option maxRecDepth 100000 in
theorem e125_1 {L : Lo} {S : List Value} {h : Hp} {b : Nat} : Run 125 1 L (.ref b :: S) h = (gf h 9 0 b).bind fun v => Run 125 4 L (v :: S) h := Rb rfl fun _ => rfl
set_option maxRecDepth 100000 in
theorem e125_4 {L : Lo} {S : List Value} {h : Hp} : Run 125 4 L S h = Run 125 6 L (.int 6 :: S) h := Rg rfl
set_option maxRecDepth 100000 in
theorem e125_6 {L : Lo} {S : List Value} {h : Hp} : Run 125 6 L S h = Run 125 8 L (.int 15 :: S) h := Rg rfl
set_option maxRecDepth 100000 in
theorem e125_8 {L : Lo} {S : List Value} {h : Hp} {x0 : Option Value} {v : Int32} : Run 125 8 (x0 :: some (.int v) :: L) S h = Run 125 9 (x0 :: some (.int v) :: L) (.int v :: S) h := Rg rfl
set_option maxRecDepth 100000 in
theorem e125_9 {L : Lo} {S : List Value} {h : Hp} {x z : Int32} : Run 125 9 L (.int z :: .int x :: S) h = Run 125 10 L (.int (x * z) :: S) h := Rg rfl
set_option maxRecDepth 100000 in
theorem e125_10 {L : Lo} {S : List Value} {h : Hp} {x z : Int32} : Run 125 10 L (.int z :: .int x :: S) h = Run 125 11 L (.int (x + z) :: S) h := Rg rfl
set_option maxRecDepth 100000 in
theorem e125_11 {L : Lo} {S : List Value} {h : Hp} {x0 x1 : Option Value} {v : Int32} : Run 125 11 (x0 :: x1 :: some (.int v) :: L) S h = Run 125 12 (x0 :: x1 :: some (.int v) :: L) (.int v :: S) h := Rg rfl
set_option maxRecDepth 100000 in
theorem e125_12 {L : Lo} {S : List Value} {h : Hp} {x z : Int32} : Run 125 12 L (.int z :: .int x :: S) h = Run 125 13 L (.int (x + z) :: S) h := Rg rfl
set_option maxRecDepth 100000 in
theorem e125_13 {L : Lo} {S : List Value} {h : Hp} {i : Int32} {b : Nat} : Run 125 13 L (.int i :: .ref b :: S) h = (gaI h b i).bind fun v => Run 125 14 L (.int v :: S) h := Rb rfl fun _ => rfl
set_option maxRecDepth 100000 in
theorem e125_14 {L : Lo} {h : Hp} {x : Int32} : Run 125 14 L [.int x] h = some (.inl (some (.int x)), h) := Rd (if_pos (c := narrow .int (.int x) = .int x) rfl)
set_option maxRecDepth 100000 in
theorem e126_0 {L : Lo} {S : List Value} {h : Hp} {v : Nat} : Run 126 0 (some (.ref v) :: L) S h = Run 126 1 (some (.ref v) :: L) (.ref v :: S) h := Rg rfl
set_option maxRecDepth 100000 in
theorem e126_1 {L : Lo} {S : List Value} {h : Hp} {b : Nat} : Run 126 1 L (.ref b :: S) h = (gf h 9 0 b).bind fun v => Run 126 4 L (v :: S) h := Rb rfl fun _ => rfl
set_option maxRecDepth 100000 in
theorem e126_4 {L : Lo} {S : List Value} {h : Hp} : Run 126 4 L S h = Run 126 6 L (.int 6 :: S) h := Rg rfl
set_option maxRecDepth 100000 in
theorem e126_6 {L : Lo} {S : List Value} {h : Hp} : Run 126 6 L S h = Run 126 8 L (.int 15 :: S) h := Rg rfl
set_option maxRecDepth 100000 in
theorem e126_8 {L : Lo} {S : List Value} {h : Hp} {x0 : Option Value} {v : Int32} : Run 126 8 (x0 :: some (.int v) :: L) S h = Run 126 9 (x0 :: some (.int v) :: L) (.int v :: S) h := Rg rfl
set_option maxRecDepth 100000 in
theorem e126_9 {L : Lo} {S : List Value} {h : Hp} {x z : Int32} : Run 126 9 L (.int z :: .int x :: S) h = Run 126 10 L (.int (x * z) :: S) h := Rg rfl
set_option maxRecDepth 100000 in
theorem e126_10 {L : Lo} {S : List Value} {h : Hp} {x z : Int32} : Run 126 10 L (.int z :: .int x :: S) h = Run 126 11 L (.int (x + z) :: S) h := Rg rfl
set_option maxRecDepth 100000 in
theorem e126_11 {L : Lo} {S : List Value} {h : Hp} {x0 x1 : Option Value} {v : Int32} : Run 126 11 (x0 :: x1 :: some (.int v) :: L) S h = Run 126 12 (x0 :: x1 :: some (.int v) :: L) (.int v :: S) h := Rg rfl
set_option maxRecDepth 100000 in
theorem e126_12 {L : Lo} {S : List Value} {h : Hp} {x z : Int32} : Run 126 12 L (.int z :: .int x :: S) h = Run 126 13 L (.int (x + z) :: S) h := Rg rfl
set_option maxRecDepth 100000 in
theorem e126_13 {L : Lo} {S : List Value} {h : Hp} {x0 x1 x2 : Option Value} {v : Int32} : Run 126 13 (x0 :: x1 :: x2 :: some (.int v) :: L) S h = Run 126 14 (x0 :: x1 :: x2 :: some (.int v) :: L) (.int v :: S) h := Rg rfl
set_option maxRecDepth 100000 in
theorem e126_14 {L : Lo} {S : List Value} {h : Hp} {v : Int32} {i : Int32} {b : Nat} : Run 126 14 L (.int v :: .int i :: .ref b :: S) h = (paI h b i v).bind fun h1 => Run 126 15 L S h1 := Rb rfl fun _ => rfl
set_option maxRecDepth 100000 in
theorem e126_15 {L : Lo} {h : Hp} : Run 126 15 L [] h = some (.inl none, h) := Rd rfl
set_option maxRecDepth 100000 in
theorem e127_0 {L : Lo} {S : List Value} {h : Hp} {v : Nat} : Run 127 0 (some (.ref v) :: L) S h = Run 127 1 (some (.ref v) :: L) (.ref v :: S) h := Rg rfl
set_option maxRecDepth 100000 in
theorem e127_1 {L : Lo} {S : List Value} {h : Hp} {x0 : Option Value} {v : Int32} : Run 127 1 (x0 :: some (.int v) :: L) S h = Run 127 2 (x0 :: some (.int v) :: L) (.int v :: S) h := Rg rfl
set_option maxRecDepth 100000 in
theorem e127_2 {L : Lo} {S : List Value} {h : Hp} : Run 127 2 L S h = Run 127 3 L (.int 3 :: S) h := Rg rfl
set_option maxRecDepth 100000 in
theorem e127_3 {L : Lo} {h : Hp} {a2 : Int32} {a1 : Int32} {a0 : Nat} (hO : isO h a0 9 = true) : Run 127 3 L [.int a2, .int a1, .ref a0] h = (Run 125 0 [some (.ref a0), some (.int a1), some (.int a2)] [] h).bind fun o => aft 127 3 6 L [] o := Rcv (c := 125) (As := [.int a1, .int a2]) (S' := []) (pc' := 6) 9 rfl hO
set_option maxRecDepth 100000 in
theorem e127_6 {L : Lo} {S : List Value} {h : Hp} {x : Int32} : Run 127 6 L (.int x :: S) h = if x ≤ 0 then Run 127 13 L S h else Run 127 9 L S h := Rbr (c := cnd .le x 0 = true) (off := 7) rfl rfl cnd_le
set_option maxRecDepth 100000 in
theorem e127_9 {L : Lo} {S : List Value} {h : Hp} : Run 127 9 L S h = Run 127 10 L (.int 1 :: S) h := Rg rfl
set_option maxRecDepth 100000 in
theorem e127_10 {L : Lo} {S : List Value} {h : Hp} : Run 127 10 L S h = Run 127 14 L S h := Rg rfl
set_option maxRecDepth 100000 in
theorem e127_13 {L : Lo} {S : List Value} {h : Hp} : Run 127 13 L S h = Run 127 14 L (.int 0 :: S) h := Rg rfl
set_option maxRecDepth 100000 in
theorem e127_14 {L : Lo} {h : Hp} {x : Int32} (hx : narrow .boolean (.int x) = .int x) : Run 127 14 L [.int x] h = some (.inl (some (.int x)), h) := Rd (if_pos hx)
set_option maxRecDepth 100000 in
theorem e128_0 {L : Lo} {S : List Value} {h : Hp} {v : Int32} : Run 128 0 (some (.int v) :: L) S h = Run 128 1 (some (.int v) :: L) (.int v :: S) h := Rg rfl
set_option maxRecDepth 100000 in
theorem e128_1 {L : Lo} {S : List Value} {h : Hp} : Run 128 1 L S h = Run 128 2 L (.int 1 :: S) h := Rg rfl
set_option maxRecDepth 100000 in
theorem e128_2 {L : Lo} {S : List Value} {h : Hp} {x z : Int32} : Run 128 2 L (.int z :: .int x :: S) h = if x = z then Run 128 10 L S h else Run 128 5 L S h := Rbr (c := cnd .eq x z = true) (off := 8) rfl rfl cnd_eq
set_option maxRecDepth 100000 in
theorem e128_5 {L : Lo} {S : List Value} {h : Hp} {v : Int32} : Run 128 5 (some (.int v) :: L) S h = Run 128 6 (some (.int v) :: L) (.int v :: S) h := Rg rfl
set_option maxRecDepth 100000 in
theorem e128_6 {L : Lo} {S : List Value} {h : Hp} : Run 128 6 L S h = Run 128 7 L (.int 2 :: S) h := Rg rfl
set_option maxRecDepth 100000 in
theorem e128_7 {L : Lo} {S : List Value} {h : Hp} {x z : Int32} : Run 128 7 L (.int z :: .int x :: S) h = if x = z then Run 128 10 L S h else Run 128 14 L S h := RbrN (c := cnd .ne x z = true) (off := 7) rfl rfl cnd_ne
set_option maxRecDepth 100000 in
theorem e128_10 {L : Lo} {S : List Value} {h : Hp} : Run 128 10 L S h = Run 128 11 L (.int 1 :: S) h := Rg rfl
set_option maxRecDepth 100000 in
theorem e128_11 {L : Lo} {S : List Value} {h : Hp} : Run 128 11 L S h = Run 128 29 L S h := Rg rfl
set_option maxRecDepth 100000 in
theorem e128_14 {L : Lo} {S : List Value} {h : Hp} {v : Int32} : Run 128 14 (some (.int v) :: L) S h = Run 128 15 (some (.int v) :: L) (.int v :: S) h := Rg rfl
set_option maxRecDepth 100000 in
theorem e128_15 {L : Lo} {S : List Value} {h : Hp} : Run 128 15 L S h = Run 128 16 L (.int 4 :: S) h := Rg rfl
set_option maxRecDepth 100000 in
theorem e128_16 {L : Lo} {S : List Value} {h : Hp} {x z : Int32} : Run 128 16 L (.int z :: .int x :: S) h = if x = z then Run 128 24 L S h else Run 128 19 L S h := Rbr (c := cnd .eq x z = true) (off := 8) rfl rfl cnd_eq
set_option maxRecDepth 100000 in
theorem e128_19 {L : Lo} {S : List Value} {h : Hp} {v : Int32} : Run 128 19 (some (.int v) :: L) S h = Run 128 20 (some (.int v) :: L) (.int v :: S) h := Rg rfl
set_option maxRecDepth 100000 in
theorem e128_20 {L : Lo} {S : List Value} {h : Hp} : Run 128 20 L S h = Run 128 21 L (.int 5 :: S) h := Rg rfl
set_option maxRecDepth 100000 in
theorem e128_21 {L : Lo} {S : List Value} {h : Hp} {x z : Int32} : Run 128 21 L (.int z :: .int x :: S) h = if x = z then Run 128 24 L S h else Run 128 28 L S h := RbrN (c := cnd .ne x z = true) (off := 7) rfl rfl cnd_ne
set_option maxRecDepth 100000 in
theorem e128_24 {L : Lo} {S : List Value} {h : Hp} : Run 128 24 L S h = Run 128 25 L (.int (-1) :: S) h := Rg rfl
set_option maxRecDepth 100000 in
theorem e128_25 {L : Lo} {S : List Value} {h : Hp} : Run 128 25 L S h = Run 128 29 L S h := Rg rfl
set_option maxRecDepth 100000 in
theorem e128_28 {L : Lo} {S : List Value} {h : Hp} : Run 128 28 L S h = Run 128 29 L (.int 0 :: S) h := Rg rfl
set_option maxRecDepth 100000 in
theorem e128_29 {L : Lo} {h : Hp} {x : Int32} : Run 128 29 L [.int x] h = some (.inl (some (.int x)), h) := Rd (if_pos (c := narrow .int (.int x) = .int x) rfl)
set_option maxRecDepth 100000 in
theorem e129_0 {L : Lo} {S : List Value} {h : Hp} {v : Int32} : Run 129 0 (some (.int v) :: L) S h = Run 129 1 (some (.int v) :: L) (.int v :: S) h := Rg rfl
set_option maxRecDepth 100000 in
theorem e129_1 {L : Lo} {S : List Value} {h : Hp} {x : Int32} : Run 129 1 L (.int x :: S) h = if x = 0 then Run 129 9 L S h else Run 129 4 L S h := Rbr (c := cnd .eq x 0 = true) (off := 8) rfl rfl cnd_eq
set_option maxRecDepth 100000 in
theorem e129_4 {L : Lo} {S : List Value} {h : Hp} {v : Int32} : Run 129 4 (some (.int v) :: L) S h = Run 129 5 (some (.int v) :: L) (.int v :: S) h := Rg rfl
set_option maxRecDepth 100000 in
theorem e129_5 {L : Lo} {S : List Value} {h : Hp} : Run 129 5 L S h = Run 129 6 L (.int 5 :: S) h := Rg rfl
set_option maxRecDepth 100000 in
theorem e129_6 {L : Lo} {S : List Value} {h : Hp} {x z : Int32} : Run 129 6 L (.int z :: .int x :: S) h = if x = z then Run 129 9 L S h else Run 129 13 L S h := RbrN (c := cnd .ne x z = true) (off := 7) rfl rfl cnd_ne
set_option maxRecDepth 100000 in
theorem e129_9 {L : Lo} {S : List Value} {h : Hp} : Run 129 9 L S h = Run 129 10 L (.int 1 :: S) h := Rg rfl
set_option maxRecDepth 100000 in
theorem e129_10 {L : Lo} {S : List Value} {h : Hp} : Run 129 10 L S h = Run 129 28 L S h := Rg rfl
set_option maxRecDepth 100000 in
theorem e129_13 {L : Lo} {S : List Value} {h : Hp} {v : Int32} : Run 129 13 (some (.int v) :: L) S h = Run 129 14 (some (.int v) :: L) (.int v :: S) h := Rg rfl
set_option maxRecDepth 100000 in
theorem e129_14 {L : Lo} {S : List Value} {h : Hp} : Run 129 14 L S h = Run 129 15 L (.int 2 :: S) h := Rg rfl
set_option maxRecDepth 100000 in
theorem e129_15 {L : Lo} {S : List Value} {h : Hp} {x z : Int32} : Run 129 15 L (.int z :: .int x :: S) h = if x = z then Run 129 23 L S h else Run 129 18 L S h := Rbr (c := cnd .eq x z = true) (off := 8) rfl rfl cnd_eq
set_option maxRecDepth 100000 in
theorem e129_18 {L : Lo} {S : List Value} {h : Hp} {v : Int32} : Run 129 18 (some (.int v) :: L) S h = Run 129 19 (some (.int v) :: L) (.int v :: S) h := Rg rfl
set_option maxRecDepth 100000 in
theorem e129_19 {L : Lo} {S : List Value} {h : Hp} : Run 129 19 L S h = Run 129 20 L (.int 3 :: S) h := Rg rfl
set_option maxRecDepth 100000 in
theorem e129_20 {L : Lo} {S : List Value} {h : Hp} {x z : Int32} : Run 129 20 L (.int z :: .int x :: S) h = if x = z then Run 129 23 L S h else Run 129 27 L S h := RbrN (c := cnd .ne x z = true) (off := 7) rfl rfl cnd_ne
set_option maxRecDepth 100000 in
theorem e129_23 {L : Lo} {S : List Value} {h : Hp} : Run 129 23 L S h = Run 129 24 L (.int (-1) :: S) h := Rg rfl
set_option maxRecDepth 100000 in
theorem e129_24 {L : Lo} {S : List Value} {h : Hp} : Run 129 24 L S h = Run 129 28 L S h := Rg rfl
set_option maxRecDepth 100000 in
theorem e129_27 {L : Lo} {S : List Value} {h : Hp} : Run 129 27 L S h = Run 129 28 L (.int 0 :: S) h := Rg rfl
set_option maxRecDepth 100000 in
theorem e129_28 {L : Lo} {h : Hp} {x : Int32} : Run 129 28 L [.int x] h = some (.inl (some (.int x)), h) := Rd (if_pos (c := narrow .int (.int x) = .int x) rfl)
set_option maxRecDepth 100000 in
theorem e130_0 {L : Lo} {S : List Value} {h : Hp} {x0 : Option Value} {v : Int32} : Run 130 0 (x0 :: some (.int v) :: L) S h = Run 130 1 (x0 :: some (.int v) :: L) (.int v :: S) h := Rg rfl
set_option maxRecDepth 100000 in
theorem e130_1 {L : Lo} {S : List Value} {h : Hp} {v : Nat} : Run 130 1 (some (.ref v) :: L) S h = Run 130 2 (some (.ref v) :: L) (.ref v :: S) h := Rg rfl
set_option maxRecDepth 100000 in
theorem e130_2 {L : Lo} {S : List Value} {h : Hp} {b : Nat} : Run 130 2 L (.ref b :: S) h = (gf h 9 0 b).bind fun v => Run 130 5 L (v :: S) h := Rb rfl fun _ => rfl
set_option maxRecDepth 100000 in
theorem e130_5 {L : Lo} {S : List Value} {h : Hp} : Run 130 5 L S h = Run 130 6 L (.int 0 :: S) h := Rg rfl
set_option maxRecDepth 100000 in
theorem e130_6 {L : Lo} {S : List Value} {h : Hp} {i : Int32} {b : Nat} : Run 130 6 L (.int i :: .ref b :: S) h = (gaI h b i).bind fun v => Run 130 7 L (.int v :: S) h := Rb rfl fun _ => rfl
set_option maxRecDepth 100000 in
theorem e130_7 {L : Lo} {S : List Value} {h : Hp} {x z : Int32} (hz : ¬ z = 0) : Run 130 7 L (.int z :: .int x :: S) h = Run 130 8 L (.int (x / z) :: S) h := Rg (if_neg hz)
set_option maxRecDepth 100000 in
theorem e130_8 {L : Lo} {S : List Value} {h : Hp} {x0 x1 : Option Value} {v : Int32} : Run 130 8 (x0 :: x1 :: some (.int v) :: L) S h = Run 130 9 (x0 :: x1 :: some (.int v) :: L) (.int v :: S) h := Rg rfl
set_option maxRecDepth 100000 in
theorem e130_9 {L : Lo} {h : Hp} {a1 : Int32} {a0 : Int32} : Run 130 9 L [.int a1, .int a0] h = (Run 128 0 [some (.int a1)] [] h).bind fun o => aft 130 9 12 L [.int a0] o := Rc (c := 128) (As := [.int a1]) (S' := [.int a0]) (pc' := 12) rfl
set_option maxRecDepth 100000 in
theorem e130_12 {L : Lo} {S : List Value} {h : Hp} {x z : Int32} : Run 130 12 L (.int z :: .int x :: S) h = Run 130 13 L (.int (x + z) :: S) h := Rg rfl
set_option maxRecDepth 100000 in
theorem e130_13 {L : Lo} {S : List Value} {h : Hp} {x0 x1 x2 : Option Value} {y : Option Value} {v : Int32} : Run 130 13 (x0 :: x1 :: x2 :: y :: L) (.int v :: S) h = Run 130 14 (x0 :: x1 :: ck x2 :: some (.int v) :: L) S h := Rg rfl
set_option maxRecDepth 100000 in
theorem e130_14 {L : Lo} {S : List Value} {h : Hp} {x0 : Option Value} {v : Int32} : Run 130 14 (x0 :: some (.int v) :: L) S h = Run 130 15 (x0 :: some (.int v) :: L) (.int v :: S) h := Rg rfl
set_option maxRecDepth 100000 in
theorem e130_15 {L : Lo} {S : List Value} {h : Hp} {v : Nat} : Run 130 15 (some (.ref v) :: L) S h = Run 130 16 (some (.ref v) :: L) (.ref v :: S) h := Rg rfl
set_option maxRecDepth 100000 in
theorem e130_16 {L : Lo} {S : List Value} {h : Hp} {b : Nat} : Run 130 16 L (.ref b :: S) h = (gf h 9 0 b).bind fun v => Run 130 19 L (v :: S) h := Rb rfl fun _ => rfl
set_option maxRecDepth 100000 in
theorem e130_19 {L : Lo} {S : List Value} {h : Hp} : Run 130 19 L S h = Run 130 20 L (.int 0 :: S) h := Rg rfl
set_option maxRecDepth 100000 in
theorem e130_20 {L : Lo} {S : List Value} {h : Hp} {i : Int32} {b : Nat} : Run 130 20 L (.int i :: .ref b :: S) h = (gaI h b i).bind fun v => Run 130 21 L (.int v :: S) h := Rb rfl fun _ => rfl
set_option maxRecDepth 100000 in
theorem e130_21 {L : Lo} {S : List Value} {h : Hp} {x z : Int32} (hz : ¬ z = 0) : Run 130 21 L (.int z :: .int x :: S) h = Run 130 22 L (.int (x - x / z * z) :: S) h := Rg (if_neg hz)
set_option maxRecDepth 100000 in
theorem e130_22 {L : Lo} {S : List Value} {h : Hp} {x0 x1 : Option Value} {v : Int32} : Run 130 22 (x0 :: x1 :: some (.int v) :: L) S h = Run 130 23 (x0 :: x1 :: some (.int v) :: L) (.int v :: S) h := Rg rfl
set_option maxRecDepth 100000 in
theorem e130_23 {L : Lo} {h : Hp} {a1 : Int32} {a0 : Int32} : Run 130 23 L [.int a1, .int a0] h = (Run 129 0 [some (.int a1)] [] h).bind fun o => aft 130 23 26 L [.int a0] o := Rc (c := 129) (As := [.int a1]) (S' := [.int a0]) (pc' := 26) rfl
set_option maxRecDepth 100000 in
theorem e130_26 {L : Lo} {S : List Value} {h : Hp} {x z : Int32} : Run 130 26 L (.int z :: .int x :: S) h = Run 130 27 L (.int (x + z) :: S) h := Rg rfl
set_option maxRecDepth 100000 in
theorem e130_27 {L : Lo} {S : List Value} {h : Hp} {x0 x1 x2 x3 : Option Value} {y : Option Value} {v : Int32} : Run 130 27 (x0 :: x1 :: x2 :: x3 :: y :: L) (.int v :: S) h = Run 130 29 (x0 :: x1 :: x2 :: ck x3 :: some (.int v) :: L) S h := Rg rfl
set_option maxRecDepth 100000 in
theorem e130_29 {L : Lo} {S : List Value} {h : Hp} {x0 x1 x2 : Option Value} {v : Int32} : Run 130 29 (x0 :: x1 :: x2 :: some (.int v) :: L) S h = Run 130 30 (x0 :: x1 :: x2 :: some (.int v) :: L) (.int v :: S) h := Rg rfl
set_option maxRecDepth 100000 in
theorem e130_30 {L : Lo} {S : List Value} {h : Hp} : Run 130 30 L S h = Run 130 31 L (.int 0 :: S) h := Rg rfl
set_option maxRecDepth 100000 in
theorem e130_31 {L : Lo} {S : List Value} {h : Hp} {v : Nat} : Run 130 31 (some (.ref v) :: L) S h = Run 130 32 (some (.ref v) :: L) (.ref v :: S) h := Rg rfl
set_option maxRecDepth 100000 in
theorem e130_32 {L : Lo} {S : List Value} {h : Hp} {b : Nat} : Run 130 32 L (.ref b :: S) h = (gf h 9 0 b).bind fun v => Run 130 35 L (v :: S) h := Rb rfl fun _ => rfl
set_option maxRecDepth 100000 in
theorem e130_35 {L : Lo} {S : List Value} {h : Hp} : Run 130 35 L S h = Run 130 36 L (.int 1 :: S) h := Rg rfl
set_option maxRecDepth 100000 in
theorem e130_36 {L : Lo} {S : List Value} {h : Hp} {i : Int32} {b : Nat} : Run 130 36 L (.int i :: .ref b :: S) h = (gaI h b i).bind fun v => Run 130 37 L (.int v :: S) h := Rb rfl fun _ => rfl
set_option maxRecDepth 100000 in
theorem e130_37 {L : Lo} {S : List Value} {h : Hp} : Run 130 37 L S h = Run 130 38 L (.int 1 :: S) h := Rg rfl
set_option maxRecDepth 100000 in
theorem e130_38 {L : Lo} {S : List Value} {h : Hp} {x z : Int32} : Run 130 38 L (.int z :: .int x :: S) h = Run 130 39 L (.int (x - z) :: S) h := Rg rfl
set_option maxRecDepth 100000 in
theorem e130_39 {L : Lo} {h : Hp} {a2 : Int32} {a1 : Int32} {a0 : Int32} : Run 130 39 L [.int a2, .int a1, .int a0] h = (Run 118 0 [some (.int a0), some (.int a1), some (.int a2)] [] h).bind fun o => aft 130 39 42 L [] o := Rc (c := 118) (As := [.int a0, .int a1, .int a2]) (S' := []) (pc' := 42) rfl
set_option maxRecDepth 100000 in
theorem e130_42 {L : Lo} {S : List Value} {h : Hp} {x : Int32} : Run 130 42 L (.int x :: S) h = if x = 0 then Run 130 76 L S h else Run 130 45 L S h := Rbr (c := cnd .eq x 0 = true) (off := 34) rfl rfl cnd_eq
set_option maxRecDepth 100000 in
theorem e130_45 {L : Lo} {S : List Value} {h : Hp} {x0 x1 x2 x3 : Option Value} {v : Int32} : Run 130 45 (x0 :: x1 :: x2 :: x3 :: some (.int v) :: L) S h = Run 130 47 (x0 :: x1 :: x2 :: x3 :: some (.int v) :: L) (.int v :: S) h := Rg rfl
set_option maxRecDepth 100000 in
theorem e130_47 {L : Lo} {S : List Value} {h : Hp} : Run 130 47 L S h = Run 130 48 L (.int 0 :: S) h := Rg rfl
set_option maxRecDepth 100000 in
theorem e130_48 {L : Lo} {S : List Value} {h : Hp} {v : Nat} : Run 130 48 (some (.ref v) :: L) S h = Run 130 49 (some (.ref v) :: L) (.ref v :: S) h := Rg rfl
set_option maxRecDepth 100000 in
theorem e130_49 {L : Lo} {S : List Value} {h : Hp} {b : Nat} : Run 130 49 L (.ref b :: S) h = (gf h 9 0 b).bind fun v => Run 130 52 L (v :: S) h := Rb rfl fun _ => rfl
set_option maxRecDepth 100000 in
theorem e130_52 {L : Lo} {S : List Value} {h : Hp} : Run 130 52 L S h = Run 130 53 L (.int 0 :: S) h := Rg rfl
set_option maxRecDepth 100000 in
theorem e130_53 {L : Lo} {S : List Value} {h : Hp} {i : Int32} {b : Nat} : Run 130 53 L (.int i :: .ref b :: S) h = (gaI h b i).bind fun v => Run 130 54 L (.int v :: S) h := Rb rfl fun _ => rfl
set_option maxRecDepth 100000 in
theorem e130_54 {L : Lo} {S : List Value} {h : Hp} : Run 130 54 L S h = Run 130 55 L (.int 1 :: S) h := Rg rfl
set_option maxRecDepth 100000 in
theorem e130_55 {L : Lo} {S : List Value} {h : Hp} {x z : Int32} : Run 130 55 L (.int z :: .int x :: S) h = Run 130 56 L (.int (x - z) :: S) h := Rg rfl
set_option maxRecDepth 100000 in
theorem e130_56 {L : Lo} {h : Hp} {a2 : Int32} {a1 : Int32} {a0 : Int32} : Run 130 56 L [.int a2, .int a1, .int a0] h = (Run 118 0 [some (.int a0), some (.int a1), some (.int a2)] [] h).bind fun o => aft 130 56 59 L [] o := Rc (c := 118) (As := [.int a0, .int a1, .int a2]) (S' := []) (pc' := 59) rfl
set_option maxRecDepth 100000 in
theorem e130_59 {L : Lo} {S : List Value} {h : Hp} {x : Int32} : Run 130 59 L (.int x :: S) h = if x = 0 then Run 130 76 L S h else Run 130 62 L S h := Rbr (c := cnd .eq x 0 = true) (off := 17) rfl rfl cnd_eq
set_option maxRecDepth 100000 in
theorem e130_62 {L : Lo} {S : List Value} {h : Hp} {v : Nat} : Run 130 62 (some (.ref v) :: L) S h = Run 130 63 (some (.ref v) :: L) (.ref v :: S) h := Rg rfl
set_option maxRecDepth 100000 in
theorem e130_63 {L : Lo} {S : List Value} {h : Hp} {b : Nat} : Run 130 63 L (.ref b :: S) h = (gf h 9 0 b).bind fun v => Run 130 66 L (v :: S) h := Rb rfl fun _ => rfl
set_option maxRecDepth 100000 in
theorem e130_66 {L : Lo} {S : List Value} {h : Hp} : Run 130 66 L S h = Run 130 67 L (.int 0 :: S) h := Rg rfl
set_option maxRecDepth 100000 in
theorem e130_67 {L : Lo} {S : List Value} {h : Hp} {i : Int32} {b : Nat} : Run 130 67 L (.int i :: .ref b :: S) h = (gaI h b i).bind fun v => Run 130 68 L (.int v :: S) h := Rb rfl fun _ => rfl
set_option maxRecDepth 100000 in
theorem e130_68 {L : Lo} {S : List Value} {h : Hp} {x0 x1 x2 : Option Value} {v : Int32} : Run 130 68 (x0 :: x1 :: x2 :: some (.int v) :: L) S h = Run 130 69 (x0 :: x1 :: x2 :: some (.int v) :: L) (.int v :: S) h := Rg rfl
set_option maxRecDepth 100000 in
theorem e130_69 {L : Lo} {S : List Value} {h : Hp} {x z : Int32} : Run 130 69 L (.int z :: .int x :: S) h = Run 130 70 L (.int (x * z) :: S) h := Rg rfl
set_option maxRecDepth 100000 in
theorem e130_70 {L : Lo} {S : List Value} {h : Hp} {x0 x1 x2 x3 : Option Value} {v : Int32} : Run 130 70 (x0 :: x1 :: x2 :: x3 :: some (.int v) :: L) S h = Run 130 72 (x0 :: x1 :: x2 :: x3 :: some (.int v) :: L) (.int v :: S) h := Rg rfl
set_option maxRecDepth 100000 in
theorem e130_72 {L : Lo} {S : List Value} {h : Hp} {x z : Int32} : Run 130 72 L (.int z :: .int x :: S) h = Run 130 73 L (.int (x + z) :: S) h := Rg rfl
set_option maxRecDepth 100000 in
theorem e130_73 {L : Lo} {S : List Value} {h : Hp} : Run 130 73 L S h = Run 130 77 L S h := Rg rfl
set_option maxRecDepth 100000 in
theorem e130_76 {L : Lo} {S : List Value} {h : Hp} : Run 130 76 L S h = Run 130 77 L (.int (-1) :: S) h := Rg rfl
set_option maxRecDepth 100000 in
theorem e130_77 {L : Lo} {h : Hp} {x : Int32} : Run 130 77 L [.int x] h = some (.inl (some (.int x)), h) := Rd (if_pos (c := narrow .int (.int x) = .int x) rfl)
set_option maxRecDepth 100000 in
theorem e131_0 {L : Lo} {S : List Value} {h : Hp} : Run 131 0 L S h = Run 131 1 L (.int 0 :: S) h := Rg rfl
set_option maxRecDepth 100000 in
theorem e131_1 {L : Lo} {S : List Value} {h : Hp} {x0 x1 : Option Value} {y : Option Value} {v : Int32} : Run 131 1 (x0 :: x1 :: y :: L) (.int v :: S) h = Run 131 2 (x0 :: ck x1 :: some (.int v) :: L) S h := Rg rfl
set_option maxRecDepth 100000 in
theorem e131_2 {L : Lo} {S : List Value} {h : Hp} {x0 x1 : Option Value} {v : Int32} : Run 131 2 (x0 :: x1 :: some (.int v) :: L) S h = Run 131 3 (x0 :: x1 :: some (.int v) :: L) (.int v :: S) h := Rg rfl
set_option maxRecDepth 100000 in
theorem e131_3 {L : Lo} {S : List Value} {h : Hp} {v : Nat} : Run 131 3 (some (.ref v) :: L) S h = Run 131 4 (some (.ref v) :: L) (.ref v :: S) h := Rg rfl
set_option maxRecDepth 100000 in
theorem e131_4 {L : Lo} {S : List Value} {h : Hp} {b : Nat} : Run 131 4 L (.ref b :: S) h = (gf h 9 0 b).bind fun v => Run 131 7 L (v :: S) h := Rb rfl fun _ => rfl
set_option maxRecDepth 100000 in
theorem e131_7 {L : Lo} {S : List Value} {h : Hp} : Run 131 7 L S h = Run 131 8 L (.int 5 :: S) h := Rg rfl
set_option maxRecDepth 100000 in
theorem e131_8 {L : Lo} {S : List Value} {h : Hp} {i : Int32} {b : Nat} : Run 131 8 L (.int i :: .ref b :: S) h = (gaI h b i).bind fun v => Run 131 9 L (.int v :: S) h := Rb rfl fun _ => rfl
set_option maxRecDepth 100000 in
theorem e131_9 {L : Lo} {S : List Value} {h : Hp} {x z : Int32} : Run 131 9 L (.int z :: .int x :: S) h = if z ≤ x then Run 131 38 L S h else Run 131 12 L S h := Rbr (c := cnd .ge x z = true) (off := 29) rfl rfl cnd_ge
set_option maxRecDepth 100000 in
theorem e131_12 {L : Lo} {S : List Value} {h : Hp} {v : Nat} : Run 131 12 (some (.ref v) :: L) S h = Run 131 13 (some (.ref v) :: L) (.ref v :: S) h := Rg rfl
set_option maxRecDepth 100000 in
theorem e131_13 {L : Lo} {S : List Value} {h : Hp} {x0 x1 : Option Value} {v : Int32} : Run 131 13 (x0 :: x1 :: some (.int v) :: L) S h = Run 131 14 (x0 :: x1 :: some (.int v) :: L) (.int v :: S) h := Rg rfl
set_option maxRecDepth 100000 in
theorem e131_14 {L : Lo} {h : Hp} {a1 : Int32} {a0 : Nat} (hO : isO h a0 9 = true) : Run 131 14 L [.int a1, .ref a0] h = (Run 127 0 [some (.ref a0), some (.int a1)] [] h).bind fun o => aft 131 14 17 L [] o := Rcv (c := 127) (As := [.int a1]) (S' := []) (pc' := 17) 9 rfl hO
set_option maxRecDepth 100000 in
theorem e131_17 {L : Lo} {S : List Value} {h : Hp} {x : Int32} : Run 131 17 L (.int x :: S) h = if x = 0 then Run 131 32 L S h else Run 131 20 L S h := Rbr (c := cnd .eq x 0 = true) (off := 15) rfl rfl cnd_eq
set_option maxRecDepth 100000 in
theorem e131_20 {L : Lo} {S : List Value} {h : Hp} {v : Nat} : Run 131 20 (some (.ref v) :: L) S h = Run 131 21 (some (.ref v) :: L) (.ref v :: S) h := Rg rfl
set_option maxRecDepth 100000 in
theorem e131_21 {L : Lo} {S : List Value} {h : Hp} {x0 x1 : Option Value} {v : Int32} : Run 131 21 (x0 :: x1 :: some (.int v) :: L) S h = Run 131 22 (x0 :: x1 :: some (.int v) :: L) (.int v :: S) h := Rg rfl
set_option maxRecDepth 100000 in
theorem e131_22 {L : Lo} {S : List Value} {h : Hp} : Run 131 22 L S h = Run 131 23 L (.int 1 :: S) h := Rg rfl
set_option maxRecDepth 100000 in
theorem e131_23 {L : Lo} {h : Hp} {a2 : Int32} {a1 : Int32} {a0 : Nat} (hO : isO h a0 9 = true) : Run 131 23 L [.int a2, .int a1, .ref a0] h = (Run 125 0 [some (.ref a0), some (.int a1), some (.int a2)] [] h).bind fun o => aft 131 23 26 L [] o := Rcv (c := 125) (As := [.int a1, .int a2]) (S' := []) (pc' := 26) 9 rfl hO
set_option maxRecDepth 100000 in
theorem e131_26 {L : Lo} {S : List Value} {h : Hp} {x0 : Option Value} {v : Int32} : Run 131 26 (x0 :: some (.int v) :: L) S h = Run 131 27 (x0 :: some (.int v) :: L) (.int v :: S) h := Rg rfl
set_option maxRecDepth 100000 in
theorem e131_27 {L : Lo} {S : List Value} {h : Hp} {x z : Int32} : Run 131 27 L (.int z :: .int x :: S) h = if x = z then Run 131 30 L S h else Run 131 32 L S h := RbrN (c := cnd .ne x z = true) (off := 5) rfl rfl cnd_ne
set_option maxRecDepth 100000 in
theorem e131_30 {L : Lo} {S : List Value} {h : Hp} {x0 x1 : Option Value} {v : Int32} : Run 131 30 (x0 :: x1 :: some (.int v) :: L) S h = Run 131 31 (x0 :: x1 :: some (.int v) :: L) (.int v :: S) h := Rg rfl
set_option maxRecDepth 100000 in
theorem e131_31 {L : Lo} {h : Hp} {x : Int32} : Run 131 31 L [.int x] h = some (.inl (some (.int x)), h) := Rd (if_pos (c := narrow .int (.int x) = .int x) rfl)
set_option maxRecDepth 100000 in
theorem e131_32 {L : Lo} {S : List Value} {h : Hp} {x0 x1 : Option Value} {v : Int32} : Run 131 32 (x0 :: x1 :: some (.int v) :: L) S h = Run 131 35 (x0 :: x1 :: some (.int (v + 1)) :: L) S h := Rg rfl
set_option maxRecDepth 100000 in
theorem e131_35 {L : Lo} {S : List Value} {h : Hp} : Run 131 35 L S h = Run 131 2 L S h := Rg rfl
set_option maxRecDepth 100000 in
theorem e131_38 {L : Lo} {S : List Value} {h : Hp} : Run 131 38 L S h = Run 131 39 L (.int (-1) :: S) h := Rg rfl
set_option maxRecDepth 100000 in
theorem e131_39 {L : Lo} {h : Hp} {x : Int32} : Run 131 39 L [.int x] h = some (.inl (some (.int x)), h) := Rd (if_pos (c := narrow .int (.int x) = .int x) rfl)
set_option maxRecDepth 100000 in
theorem e132_0 {L : Lo} {S : List Value} {h : Hp} {v : Nat} : Run 132 0 (some (.ref v) :: L) S h = Run 132 1 (some (.ref v) :: L) (.ref v :: S) h := Rg rfl
set_option maxRecDepth 100000 in
theorem e132_1 {L : Lo} {S : List Value} {h : Hp} {b : Nat} : Run 132 1 L (.ref b :: S) h = (gf h 9 0 b).bind fun v => Run 132 4 L (v :: S) h := Rb rfl fun _ => rfl
set_option maxRecDepth 100000 in
theorem e132_4 {L : Lo} {S : List Value} {h : Hp} : Run 132 4 L S h = Run 132 6 L (.int 126 :: S) h := Rg rfl
set_option maxRecDepth 100000 in
theorem e132_6 {L : Lo} {S : List Value} {h : Hp} {x0 : Option Value} {v : Int32} : Run 132 6 (x0 :: some (.int v) :: L) S h = Run 132 7 (x0 :: some (.int v) :: L) (.int v :: S) h := Rg rfl
set_option maxRecDepth 100000 in
theorem e132_7 {L : Lo} {S : List Value} {h : Hp} {x z : Int32} : Run 132 7 L (.int z :: .int x :: S) h = Run 132 8 L (.int (x + z) :: S) h := Rg rfl
set_option maxRecDepth 100000 in
theorem e132_8 {L : Lo} {S : List Value} {h : Hp} {i : Int32} {b : Nat} : Run 132 8 L (.int i :: .ref b :: S) h = (gaI h b i).bind fun v => Run 132 9 L (.int v :: S) h := Rb rfl fun _ => rfl
set_option maxRecDepth 100000 in
theorem e132_9 {L : Lo} {S : List Value} {h : Hp} : Run 132 9 L S h = Run 132 10 L (.int 1 :: S) h := Rg rfl
set_option maxRecDepth 100000 in
theorem e132_10 {L : Lo} {S : List Value} {h : Hp} {x z : Int32} : Run 132 10 L (.int z :: .int x :: S) h = if x = z then Run 132 13 L S h else Run 132 18 L S h := RbrN (c := cnd .ne x z = true) (off := 8) rfl rfl cnd_ne
set_option maxRecDepth 100000 in
theorem e132_13 {L : Lo} {S : List Value} {h : Hp} : Run 132 13 L S h = Run 132 15 L (.int (-2) :: S) h := Rg rfl
set_option maxRecDepth 100000 in
theorem e132_15 {L : Lo} {S : List Value} {h : Hp} : Run 132 15 L S h = Run 132 23 L S h := Rg rfl
set_option maxRecDepth 100000 in
theorem e132_18 {L : Lo} {S : List Value} {h : Hp} {v : Nat} : Run 132 18 (some (.ref v) :: L) S h = Run 132 19 (some (.ref v) :: L) (.ref v :: S) h := Rg rfl
set_option maxRecDepth 100000 in
theorem e132_19 {L : Lo} {S : List Value} {h : Hp} {x0 : Option Value} {v : Int32} : Run 132 19 (x0 :: some (.int v) :: L) S h = Run 132 20 (x0 :: some (.int v) :: L) (.int v :: S) h := Rg rfl
set_option maxRecDepth 100000 in
theorem e132_20 {L : Lo} {h : Hp} {a1 : Int32} {a0 : Nat} (hO : isO h a0 9 = true) : Run 132 20 L [.int a1, .ref a0] h = (Run 131 0 [some (.ref a0), some (.int a1), none] [] h).bind fun o => aft 132 20 23 L [] o := Rcv (c := 131) (As := [.int a1]) (S' := []) (pc' := 23) 9 rfl hO
set_option maxRecDepth 100000 in
theorem e132_23 {L : Lo} {h : Hp} {x : Int32} : Run 132 23 L [.int x] h = some (.inl (some (.int x)), h) := Rd (if_pos (c := narrow .int (.int x) = .int x) rfl)
set_option maxRecDepth 100000 in
theorem e133_0 {L : Lo} {S : List Value} {h : Hp} {x0 : Option Value} {v : Int32} : Run 133 0 (x0 :: some (.int v) :: L) S h = Run 133 1 (x0 :: some (.int v) :: L) (.int v :: S) h := Rg rfl
set_option maxRecDepth 100000 in
theorem e133_1 {L : Lo} {S : List Value} {h : Hp} : Run 133 1 L S h = Run 133 2 L (.int (-1) :: S) h := Rg rfl
set_option maxRecDepth 100000 in
theorem e133_2 {L : Lo} {S : List Value} {h : Hp} {x z : Int32} : Run 133 2 L (.int z :: .int x :: S) h = if x = z then Run 133 18 L S h else Run 133 5 L S h := Rbr (c := cnd .eq x z = true) (off := 16) rfl rfl cnd_eq
set_option maxRecDepth 100000 in
theorem e133_5 {L : Lo} {S : List Value} {h : Hp} {v : Nat} : Run 133 5 (some (.ref v) :: L) S h = Run 133 6 (some (.ref v) :: L) (.ref v :: S) h := Rg rfl
set_option maxRecDepth 100000 in
theorem e133_6 {L : Lo} {S : List Value} {h : Hp} {x0 : Option Value} {v : Int32} : Run 133 6 (x0 :: some (.int v) :: L) S h = Run 133 7 (x0 :: some (.int v) :: L) (.int v :: S) h := Rg rfl
set_option maxRecDepth 100000 in
theorem e133_7 {L : Lo} {h : Hp} {a1 : Int32} {a0 : Nat} (hO : isO h a0 9 = true) : Run 133 7 L [.int a1, .ref a0] h = (Run 132 0 [some (.ref a0), some (.int a1)] [] h).bind fun o => aft 133 7 10 L [] o := Rcv (c := 132) (As := [.int a1]) (S' := []) (pc' := 10) 9 rfl hO
set_option maxRecDepth 100000 in
theorem e133_10 {L : Lo} {S : List Value} {h : Hp} : Run 133 10 L S h = Run 133 11 L (.int (-1) :: S) h := Rg rfl
set_option maxRecDepth 100000 in
theorem e133_11 {L : Lo} {S : List Value} {h : Hp} {x z : Int32} : Run 133 11 L (.int z :: .int x :: S) h = if x = z then Run 133 14 L S h else Run 133 18 L S h := RbrN (c := cnd .ne x z = true) (off := 7) rfl rfl cnd_ne
set_option maxRecDepth 100000 in
theorem e133_14 {L : Lo} {S : List Value} {h : Hp} : Run 133 14 L S h = Run 133 15 L (.int 1 :: S) h := Rg rfl
set_option maxRecDepth 100000 in
theorem e133_15 {L : Lo} {S : List Value} {h : Hp} : Run 133 15 L S h = Run 133 19 L S h := Rg rfl
set_option maxRecDepth 100000 in
theorem e133_18 {L : Lo} {S : List Value} {h : Hp} : Run 133 18 L S h = Run 133 19 L (.int 0 :: S) h := Rg rfl
set_option maxRecDepth 100000 in
theorem e133_19 {L : Lo} {h : Hp} {x : Int32} (hx : narrow .boolean (.int x) = .int x) : Run 133 19 L [.int x] h = some (.inl (some (.int x)), h) := Rd (if_pos hx)
set_option maxRecDepth 100000 in
theorem e134_0 {L : Lo} {S : List Value} {h : Hp} {x0 x1 : Option Value} {v : Int32} : Run 134 0 (x0 :: x1 :: some (.int v) :: L) S h = Run 134 1 (x0 :: x1 :: some (.int v) :: L) (.int v :: S) h := Rg rfl
set_option maxRecDepth 100000 in
theorem e134_1 {L : Lo} {S : List Value} {h : Hp} {v : Nat} : Run 134 1 (some (.ref v) :: L) S h = Run 134 2 (some (.ref v) :: L) (.ref v :: S) h := Rg rfl
set_option maxRecDepth 100000 in
theorem e134_2 {L : Lo} {S : List Value} {h : Hp} {b : Nat} : Run 134 2 L (.ref b :: S) h = (gf h 9 0 b).bind fun v => Run 134 5 L (v :: S) h := Rb rfl fun _ => rfl
set_option maxRecDepth 100000 in
theorem e134_5 {L : Lo} {S : List Value} {h : Hp} : Run 134 5 L S h = Run 134 6 L (.int 0 :: S) h := Rg rfl
set_option maxRecDepth 100000 in
theorem e134_6 {L : Lo} {S : List Value} {h : Hp} {i : Int32} {b : Nat} : Run 134 6 L (.int i :: .ref b :: S) h = (gaI h b i).bind fun v => Run 134 7 L (.int v :: S) h := Rb rfl fun _ => rfl
set_option maxRecDepth 100000 in
theorem e134_7 {L : Lo} {S : List Value} {h : Hp} {x z : Int32} (hz : ¬ z = 0) : Run 134 7 L (.int z :: .int x :: S) h = Run 134 8 L (.int (x / z) :: S) h := Rg (if_neg hz)
set_option maxRecDepth 100000 in
theorem e134_8 {L : Lo} {S : List Value} {h : Hp} {x0 : Option Value} {v : Int32} : Run 134 8 (x0 :: some (.int v) :: L) S h = Run 134 9 (x0 :: some (.int v) :: L) (.int v :: S) h := Rg rfl
set_option maxRecDepth 100000 in
theorem e134_9 {L : Lo} {S : List Value} {h : Hp} {v : Nat} : Run 134 9 (some (.ref v) :: L) S h = Run 134 10 (some (.ref v) :: L) (.ref v :: S) h := Rg rfl
set_option maxRecDepth 100000 in
theorem e134_10 {L : Lo} {S : List Value} {h : Hp} {b : Nat} : Run 134 10 L (.ref b :: S) h = (gf h 9 0 b).bind fun v => Run 134 13 L (v :: S) h := Rb rfl fun _ => rfl
set_option maxRecDepth 100000 in
theorem e134_13 {L : Lo} {S : List Value} {h : Hp} : Run 134 13 L S h = Run 134 14 L (.int 0 :: S) h := Rg rfl
set_option maxRecDepth 100000 in
theorem e134_14 {L : Lo} {S : List Value} {h : Hp} {i : Int32} {b : Nat} : Run 134 14 L (.int i :: .ref b :: S) h = (gaI h b i).bind fun v => Run 134 15 L (.int v :: S) h := Rb rfl fun _ => rfl
set_option maxRecDepth 100000 in
theorem e134_15 {L : Lo} {S : List Value} {h : Hp} {x z : Int32} (hz : ¬ z = 0) : Run 134 15 L (.int z :: .int x :: S) h = Run 134 16 L (.int (x / z) :: S) h := Rg (if_neg hz)
set_option maxRecDepth 100000 in
theorem e134_16 {L : Lo} {S : List Value} {h : Hp} {x z : Int32} : Run 134 16 L (.int z :: .int x :: S) h = Run 134 17 L (.int (x - z) :: S) h := Rg rfl
set_option maxRecDepth 100000 in
theorem e134_17 {L : Lo} {h : Hp} {x : Int32} : Run 134 17 L [.int x] h = some (.inl (some (.int x)), h) := Rd (if_pos (c := narrow .int (.int x) = .int x) rfl)
set_option maxRecDepth 100000 in
theorem e135_0 {L : Lo} {S : List Value} {h : Hp} {x0 x1 : Option Value} {v : Int32} : Run 135 0 (x0 :: x1 :: some (.int v) :: L) S h = Run 135 1 (x0 :: x1 :: some (.int v) :: L) (.int v :: S) h := Rg rfl
set_option maxRecDepth 100000 in
theorem e135_1 {L : Lo} {S : List Value} {h : Hp} {v : Nat} : Run 135 1 (some (.ref v) :: L) S h = Run 135 2 (some (.ref v) :: L) (.ref v :: S) h := Rg rfl
set_option maxRecDepth 100000 in
theorem e135_2 {L : Lo} {S : List Value} {h : Hp} {b : Nat} : Run 135 2 L (.ref b :: S) h = (gf h 9 0 b).bind fun v => Run 135 5 L (v :: S) h := Rb rfl fun _ => rfl
set_option maxRecDepth 100000 in
theorem e135_5 {L : Lo} {S : List Value} {h : Hp} : Run 135 5 L S h = Run 135 6 L (.int 0 :: S) h := Rg rfl
set_option maxRecDepth 100000 in
theorem e135_6 {L : Lo} {S : List Value} {h : Hp} {i : Int32} {b : Nat} : Run 135 6 L (.int i :: .ref b :: S) h = (gaI h b i).bind fun v => Run 135 7 L (.int v :: S) h := Rb rfl fun _ => rfl
set_option maxRecDepth 100000 in
theorem e135_7 {L : Lo} {S : List Value} {h : Hp} {x z : Int32} (hz : ¬ z = 0) : Run 135 7 L (.int z :: .int x :: S) h = Run 135 8 L (.int (x - x / z * z) :: S) h := Rg (if_neg hz)
set_option maxRecDepth 100000 in
theorem e135_8 {L : Lo} {S : List Value} {h : Hp} {x0 : Option Value} {v : Int32} : Run 135 8 (x0 :: some (.int v) :: L) S h = Run 135 9 (x0 :: some (.int v) :: L) (.int v :: S) h := Rg rfl
set_option maxRecDepth 100000 in
theorem e135_9 {L : Lo} {S : List Value} {h : Hp} {v : Nat} : Run 135 9 (some (.ref v) :: L) S h = Run 135 10 (some (.ref v) :: L) (.ref v :: S) h := Rg rfl
set_option maxRecDepth 100000 in
theorem e135_10 {L : Lo} {S : List Value} {h : Hp} {b : Nat} : Run 135 10 L (.ref b :: S) h = (gf h 9 0 b).bind fun v => Run 135 13 L (v :: S) h := Rb rfl fun _ => rfl
set_option maxRecDepth 100000 in
theorem e135_13 {L : Lo} {S : List Value} {h : Hp} : Run 135 13 L S h = Run 135 14 L (.int 0 :: S) h := Rg rfl
set_option maxRecDepth 100000 in
theorem e135_14 {L : Lo} {S : List Value} {h : Hp} {i : Int32} {b : Nat} : Run 135 14 L (.int i :: .ref b :: S) h = (gaI h b i).bind fun v => Run 135 15 L (.int v :: S) h := Rb rfl fun _ => rfl
set_option maxRecDepth 100000 in
theorem e135_15 {L : Lo} {S : List Value} {h : Hp} {x z : Int32} (hz : ¬ z = 0) : Run 135 15 L (.int z :: .int x :: S) h = Run 135 16 L (.int (x - x / z * z) :: S) h := Rg (if_neg hz)
set_option maxRecDepth 100000 in
theorem e135_16 {L : Lo} {S : List Value} {h : Hp} {x z : Int32} : Run 135 16 L (.int z :: .int x :: S) h = Run 135 17 L (.int (x - z) :: S) h := Rg rfl
set_option maxRecDepth 100000 in
theorem e135_17 {L : Lo} {h : Hp} {x : Int32} : Run 135 17 L [.int x] h = some (.inl (some (.int x)), h) := Rd (if_pos (c := narrow .int (.int x) = .int x) rfl)
set_option maxRecDepth 100000 in
theorem e136_0 {L : Lo} {S : List Value} {h : Hp} {v : Nat} : Run 136 0 (some (.ref v) :: L) S h = Run 136 1 (some (.ref v) :: L) (.ref v :: S) h := Rg rfl
set_option maxRecDepth 100000 in
theorem e136_1 {L : Lo} {S : List Value} {h : Hp} {x0 : Option Value} {v : Int32} : Run 136 1 (x0 :: some (.int v) :: L) S h = Run 136 2 (x0 :: some (.int v) :: L) (.int v :: S) h := Rg rfl
set_option maxRecDepth 100000 in
theorem e136_2 {L : Lo} {S : List Value} {h : Hp} {x0 x1 : Option Value} {v : Int32} : Run 136 2 (x0 :: x1 :: some (.int v) :: L) S h = Run 136 3 (x0 :: x1 :: some (.int v) :: L) (.int v :: S) h := Rg rfl
set_option maxRecDepth 100000 in
theorem e136_3 {L : Lo} {h : Hp} {a2 : Int32} {a1 : Int32} {a0 : Nat} (hO : isO h a0 9 = true) : Run 136 3 L [.int a2, .int a1, .ref a0] h = (Run 134 0 [some (.ref a0), some (.int a1), some (.int a2)] [] h).bind fun o => aft 136 3 6 L [] o := Rcv (c := 134) (As := [.int a1, .int a2]) (S' := []) (pc' := 6) 9 rfl hO
set_option maxRecDepth 100000 in
theorem e136_6 {L : Lo} {h : Hp} {a0 : Int32} : Run 136 6 L [.int a0] h = (Run 119 0 [some (.int a0)] [] h).bind fun o => aft 136 6 9 L [] o := Rc (c := 119) (As := [.int a0]) (S' := []) (pc' := 9) rfl
set_option maxRecDepth 100000 in
theorem e136_9 {L : Lo} {S : List Value} {h : Hp} {x0 x1 x2 : Option Value} {y : Option Value} {v : Int32} : Run 136 9 (x0 :: x1 :: x2 :: y :: L) (.int v :: S) h = Run 136 10 (x0 :: x1 :: ck x2 :: some (.int v) :: L) S h := Rg rfl
set_option maxRecDepth 100000 in
theorem e136_10 {L : Lo} {S : List Value} {h : Hp} {v : Nat} : Run 136 10 (some (.ref v) :: L) S h = Run 136 11 (some (.ref v) :: L) (.ref v :: S) h := Rg rfl
set_option maxRecDepth 100000 in
theorem e136_11 {L : Lo} {S : List Value} {h : Hp} {x0 : Option Value} {v : Int32} : Run 136 11 (x0 :: some (.int v) :: L) S h = Run 136 12 (x0 :: some (.int v) :: L) (.int v :: S) h := Rg rfl
set_option maxRecDepth 100000 in
theorem e136_12 {L : Lo} {S : List Value} {h : Hp} {x0 x1 : Option Value} {v : Int32} : Run 136 12 (x0 :: x1 :: some (.int v) :: L) S h = Run 136 13 (x0 :: x1 :: some (.int v) :: L) (.int v :: S) h := Rg rfl
set_option maxRecDepth 100000 in
theorem e136_13 {L : Lo} {h : Hp} {a2 : Int32} {a1 : Int32} {a0 : Nat} (hO : isO h a0 9 = true) : Run 136 13 L [.int a2, .int a1, .ref a0] h = (Run 135 0 [some (.ref a0), some (.int a1), some (.int a2)] [] h).bind fun o => aft 136 13 16 L [] o := Rcv (c := 135) (As := [.int a1, .int a2]) (S' := []) (pc' := 16) 9 rfl hO
set_option maxRecDepth 100000 in
theorem e136_16 {L : Lo} {h : Hp} {a0 : Int32} : Run 136 16 L [.int a0] h = (Run 119 0 [some (.int a0)] [] h).bind fun o => aft 136 16 19 L [] o := Rc (c := 119) (As := [.int a0]) (S' := []) (pc' := 19) rfl
set_option maxRecDepth 100000 in
theorem e136_19 {L : Lo} {S : List Value} {h : Hp} {x0 x1 x2 x3 : Option Value} {y : Option Value} {v : Int32} : Run 136 19 (x0 :: x1 :: x2 :: x3 :: y :: L) (.int v :: S) h = Run 136 21 (x0 :: x1 :: x2 :: ck x3 :: some (.int v) :: L) S h := Rg rfl
set_option maxRecDepth 100000 in
theorem e136_21 {L : Lo} {S : List Value} {h : Hp} {v : Nat} : Run 136 21 (some (.ref v) :: L) S h = Run 136 22 (some (.ref v) :: L) (.ref v :: S) h := Rg rfl
set_option maxRecDepth 100000 in
theorem e136_22 {L : Lo} {S : List Value} {h : Hp} {x0 : Option Value} {v : Int32} : Run 136 22 (x0 :: some (.int v) :: L) S h = Run 136 23 (x0 :: some (.int v) :: L) (.int v :: S) h := Rg rfl
set_option maxRecDepth 100000 in
theorem e136_23 {L : Lo} {S : List Value} {h : Hp} {x0 x1 : Option Value} {v : Int32} : Run 136 23 (x0 :: x1 :: some (.int v) :: L) S h = Run 136 24 (x0 :: x1 :: some (.int v) :: L) (.int v :: S) h := Rg rfl
set_option maxRecDepth 100000 in
theorem e136_24 {L : Lo} {h : Hp} {a2 : Int32} {a1 : Int32} {a0 : Nat} (hO : isO h a0 9 = true) : Run 136 24 L [.int a2, .int a1, .ref a0] h = (Run 134 0 [some (.ref a0), some (.int a1), some (.int a2)] [] h).bind fun o => aft 136 24 27 L [] o := Rcv (c := 134) (As := [.int a1, .int a2]) (S' := []) (pc' := 27) 9 rfl hO
set_option maxRecDepth 100000 in
theorem e136_27 {L : Lo} {S : List Value} {h : Hp} {v : Nat} : Run 136 27 (some (.ref v) :: L) S h = Run 136 28 (some (.ref v) :: L) (.ref v :: S) h := Rg rfl
set_option maxRecDepth 100000 in
theorem e136_28 {L : Lo} {S : List Value} {h : Hp} {x0 : Option Value} {v : Int32} : Run 136 28 (x0 :: some (.int v) :: L) S h = Run 136 29 (x0 :: some (.int v) :: L) (.int v :: S) h := Rg rfl
set_option maxRecDepth 100000 in
theorem e136_29 {L : Lo} {S : List Value} {h : Hp} {x0 x1 : Option Value} {v : Int32} : Run 136 29 (x0 :: x1 :: some (.int v) :: L) S h = Run 136 30 (x0 :: x1 :: some (.int v) :: L) (.int v :: S) h := Rg rfl
set_option maxRecDepth 100000 in
theorem e136_30 {L : Lo} {h : Hp} {a3 : Int32} {a2 : Int32} {a1 : Nat} {a0 : Int32} (hO : isO h a1 9 = true) : Run 136 30 L [.int a3, .int a2, .ref a1, .int a0] h = (Run 135 0 [some (.ref a1), some (.int a2), some (.int a3)] [] h).bind fun o => aft 136 30 33 L [.int a0] o := Rcv (c := 135) (As := [.int a2, .int a3]) (S' := [.int a0]) (pc' := 33) 9 rfl hO
set_option maxRecDepth 100000 in
theorem e136_33 {L : Lo} {S : List Value} {h : Hp} {x z : Int32} : Run 136 33 L (.int z :: .int x :: S) h = Run 136 34 L (.int (x + z) :: S) h := Rg rfl
set_option maxRecDepth 100000 in
theorem e136_34 {L : Lo} {h : Hp} {a0 : Int32} : Run 136 34 L [.int a0] h = (Run 119 0 [some (.int a0)] [] h).bind fun o => aft 136 34 37 L [] o := Rc (c := 119) (As := [.int a0]) (S' := []) (pc' := 37) rfl
set_option maxRecDepth 100000 in
theorem e136_37 {L : Lo} {S : List Value} {h : Hp} {x0 x1 x2 x3 x4 : Option Value} {y : Option Value} {v : Int32} : Run 136 37 (x0 :: x1 :: x2 :: x3 :: x4 :: y :: L) (.int v :: S) h = Run 136 39 (x0 :: x1 :: x2 :: x3 :: ck x4 :: some (.int v) :: L) S h := Rg rfl
set_option maxRecDepth 100000 in
theorem e136_39 {L : Lo} {S : List Value} {h : Hp} {x0 x1 x2 : Option Value} {v : Int32} : Run 136 39 (x0 :: x1 :: x2 :: some (.int v) :: L) S h = Run 136 40 (x0 :: x1 :: x2 :: some (.int v) :: L) (.int v :: S) h := Rg rfl
set_option maxRecDepth 100000 in
theorem e136_40 {L : Lo} {S : List Value} {h : Hp} {x0 x1 x2 x3 : Option Value} {v : Int32} : Run 136 40 (x0 :: x1 :: x2 :: x3 :: some (.int v) :: L) S h = Run 136 42 (x0 :: x1 :: x2 :: x3 :: some (.int v) :: L) (.int v :: S) h := Rg rfl
set_option maxRecDepth 100000 in
theorem e136_42 {L : Lo} {S : List Value} {h : Hp} {x z : Int32} : Run 136 42 L (.int z :: .int x :: S) h = if x ≤ z then Run 136 60 L S h else Run 136 45 L S h := Rbr (c := cnd .le x z = true) (off := 18) rfl rfl cnd_le
set_option maxRecDepth 100000 in
theorem e136_45 {L : Lo} {S : List Value} {h : Hp} {x0 x1 x2 : Option Value} {v : Int32} : Run 136 45 (x0 :: x1 :: x2 :: some (.int v) :: L) S h = Run 136 46 (x0 :: x1 :: x2 :: some (.int v) :: L) (.int v :: S) h := Rg rfl
set_option maxRecDepth 100000 in
theorem e136_46 {L : Lo} {S : List Value} {h : Hp} {x0 x1 x2 x3 x4 : Option Value} {v : Int32} : Run 136 46 (x0 :: x1 :: x2 :: x3 :: x4 :: some (.int v) :: L) S h = Run 136 48 (x0 :: x1 :: x2 :: x3 :: x4 :: some (.int v) :: L) (.int v :: S) h := Rg rfl
set_option maxRecDepth 100000 in
theorem e136_48 {L : Lo} {S : List Value} {h : Hp} {x z : Int32} : Run 136 48 L (.int z :: .int x :: S) h = if x ≤ z then Run 136 55 L S h else Run 136 51 L S h := Rbr (c := cnd .le x z = true) (off := 7) rfl rfl cnd_le
set_option maxRecDepth 100000 in
theorem e136_51 {L : Lo} {S : List Value} {h : Hp} {x0 x1 x2 : Option Value} {v : Int32} : Run 136 51 (x0 :: x1 :: x2 :: some (.int v) :: L) S h = Run 136 52 (x0 :: x1 :: x2 :: some (.int v) :: L) (.int v :: S) h := Rg rfl
set_option maxRecDepth 100000 in
theorem e136_52 {L : Lo} {S : List Value} {h : Hp} : Run 136 52 L S h = Run 136 74 L S h := Rg rfl
set_option maxRecDepth 100000 in
theorem e136_55 {L : Lo} {S : List Value} {h : Hp} {x0 x1 x2 x3 x4 : Option Value} {v : Int32} : Run 136 55 (x0 :: x1 :: x2 :: x3 :: x4 :: some (.int v) :: L) S h = Run 136 57 (x0 :: x1 :: x2 :: x3 :: x4 :: some (.int v) :: L) (.int v :: S) h := Rg rfl
set_option maxRecDepth 100000 in
theorem e136_57 {L : Lo} {S : List Value} {h : Hp} : Run 136 57 L S h = Run 136 74 L S h := Rg rfl
set_option maxRecDepth 100000 in
theorem e136_60 {L : Lo} {S : List Value} {h : Hp} {x0 x1 x2 x3 : Option Value} {v : Int32} : Run 136 60 (x0 :: x1 :: x2 :: x3 :: some (.int v) :: L) S h = Run 136 62 (x0 :: x1 :: x2 :: x3 :: some (.int v) :: L) (.int v :: S) h := Rg rfl
set_option maxRecDepth 100000 in
theorem e136_62 {L : Lo} {S : List Value} {h : Hp} {x0 x1 x2 x3 x4 : Option Value} {v : Int32} : Run 136 62 (x0 :: x1 :: x2 :: x3 :: x4 :: some (.int v) :: L) S h = Run 136 64 (x0 :: x1 :: x2 :: x3 :: x4 :: some (.int v) :: L) (.int v :: S) h := Rg rfl
set_option maxRecDepth 100000 in
theorem e136_64 {L : Lo} {S : List Value} {h : Hp} {x z : Int32} : Run 136 64 L (.int z :: .int x :: S) h = if x ≤ z then Run 136 72 L S h else Run 136 67 L S h := Rbr (c := cnd .le x z = true) (off := 8) rfl rfl cnd_le
set_option maxRecDepth 100000 in
theorem e136_67 {L : Lo} {S : List Value} {h : Hp} {x0 x1 x2 x3 : Option Value} {v : Int32} : Run 136 67 (x0 :: x1 :: x2 :: x3 :: some (.int v) :: L) S h = Run 136 69 (x0 :: x1 :: x2 :: x3 :: some (.int v) :: L) (.int v :: S) h := Rg rfl
set_option maxRecDepth 100000 in
theorem e136_69 {L : Lo} {S : List Value} {h : Hp} : Run 136 69 L S h = Run 136 74 L S h := Rg rfl
set_option maxRecDepth 100000 in
theorem e136_72 {L : Lo} {S : List Value} {h : Hp} {x0 x1 x2 x3 x4 : Option Value} {v : Int32} : Run 136 72 (x0 :: x1 :: x2 :: x3 :: x4 :: some (.int v) :: L) S h = Run 136 74 (x0 :: x1 :: x2 :: x3 :: x4 :: some (.int v) :: L) (.int v :: S) h := Rg rfl
set_option maxRecDepth 100000 in
theorem e136_74 {L : Lo} {h : Hp} {x : Int32} : Run 136 74 L [.int x] h = some (.inl (some (.int x)), h) := Rd (if_pos (c := narrow .int (.int x) = .int x) rfl)
set_option maxRecDepth 100000 in
theorem e137_0 {L : Lo} {S : List Value} {h : Hp} {v : Nat} : Run 137 0 (some (.ref v) :: L) S h = Run 137 1 (some (.ref v) :: L) (.ref v :: S) h := Rg rfl
set_option maxRecDepth 100000 in
theorem e137_1 {L : Lo} {S : List Value} {h : Hp} {x0 : Option Value} {v : Int32} : Run 137 1 (x0 :: some (.int v) :: L) S h = Run 137 2 (x0 :: some (.int v) :: L) (.int v :: S) h := Rg rfl
set_option maxRecDepth 100000 in
theorem e137_2 {L : Lo} {S : List Value} {h : Hp} {x0 x1 : Option Value} {v : Int32} : Run 137 2 (x0 :: x1 :: some (.int v) :: L) S h = Run 137 3 (x0 :: x1 :: some (.int v) :: L) (.int v :: S) h := Rg rfl
set_option maxRecDepth 100000 in
theorem e137_3 {L : Lo} {h : Hp} {a2 : Int32} {a1 : Int32} {a0 : Nat} (hO : isO h a0 9 = true) : Run 137 3 L [.int a2, .int a1, .ref a0] h = (Run 134 0 [some (.ref a0), some (.int a1), some (.int a2)] [] h).bind fun o => aft 137 3 6 L [] o := Rcv (c := 134) (As := [.int a1, .int a2]) (S' := []) (pc' := 6) 9 rfl hO
set_option maxRecDepth 100000 in
theorem e137_6 {L : Lo} {S : List Value} {h : Hp} {x0 x1 x2 : Option Value} {y : Option Value} {v : Int32} : Run 137 6 (x0 :: x1 :: x2 :: y :: L) (.int v :: S) h = Run 137 7 (x0 :: x1 :: ck x2 :: some (.int v) :: L) S h := Rg rfl
set_option maxRecDepth 100000 in
theorem e137_7 {L : Lo} {S : List Value} {h : Hp} {v : Nat} : Run 137 7 (some (.ref v) :: L) S h = Run 137 8 (some (.ref v) :: L) (.ref v :: S) h := Rg rfl
set_option maxRecDepth 100000 in
theorem e137_8 {L : Lo} {S : List Value} {h : Hp} {x0 : Option Value} {v : Int32} : Run 137 8 (x0 :: some (.int v) :: L) S h = Run 137 9 (x0 :: some (.int v) :: L) (.int v :: S) h := Rg rfl
set_option maxRecDepth 100000 in
theorem e137_9 {L : Lo} {S : List Value} {h : Hp} {x0 x1 : Option Value} {v : Int32} : Run 137 9 (x0 :: x1 :: some (.int v) :: L) S h = Run 137 10 (x0 :: x1 :: some (.int v) :: L) (.int v :: S) h := Rg rfl
set_option maxRecDepth 100000 in
theorem e137_10 {L : Lo} {h : Hp} {a2 : Int32} {a1 : Int32} {a0 : Nat} (hO : isO h a0 9 = true) : Run 137 10 L [.int a2, .int a1, .ref a0] h = (Run 135 0 [some (.ref a0), some (.int a1), some (.int a2)] [] h).bind fun o => aft 137 10 13 L [] o := Rcv (c := 135) (As := [.int a1, .int a2]) (S' := []) (pc' := 13) 9 rfl hO
set_option maxRecDepth 100000 in
theorem e137_13 {L : Lo} {S : List Value} {h : Hp} {x0 x1 x2 x3 : Option Value} {y : Option Value} {v : Int32} : Run 137 13 (x0 :: x1 :: x2 :: x3 :: y :: L) (.int v :: S) h = Run 137 15 (x0 :: x1 :: x2 :: ck x3 :: some (.int v) :: L) S h := Rg rfl
set_option maxRecDepth 100000 in
theorem e137_15 {L : Lo} {S : List Value} {h : Hp} : Run 137 15 L S h = Run 137 16 L (.int 0 :: S) h := Rg rfl
set_option maxRecDepth 100000 in
theorem e137_16 {L : Lo} {S : List Value} {h : Hp} {x0 x1 x2 x3 x4 : Option Value} {y : Option Value} {v : Int32} : Run 137 16 (x0 :: x1 :: x2 :: x3 :: x4 :: y :: L) (.int v :: S) h = Run 137 18 (x0 :: x1 :: x2 :: x3 :: ck x4 :: some (.int v) :: L) S h := Rg rfl
set_option maxRecDepth 100000 in
theorem e137_18 {L : Lo} {S : List Value} {h : Hp} {x0 x1 x2 x3 x4 : Option Value} {v : Int32} : Run 137 18 (x0 :: x1 :: x2 :: x3 :: x4 :: some (.int v) :: L) S h = Run 137 20 (x0 :: x1 :: x2 :: x3 :: x4 :: some (.int v) :: L) (.int v :: S) h := Rg rfl
set_option maxRecDepth 100000 in
theorem e137_20 {L : Lo} {S : List Value} {h : Hp} : Run 137 20 L S h = Run 137 22 L (.int 6 :: S) h := Rg rfl
set_option maxRecDepth 100000 in
theorem e137_22 {L : Lo} {S : List Value} {h : Hp} {x z : Int32} : Run 137 22 L (.int z :: .int x :: S) h = if z ≤ x then Run 137 133 L S h else Run 137 25 L S h := Rbr (c := cnd .ge x z = true) (off := 111) rfl rfl cnd_ge
set_option maxRecDepth 100000 in
theorem e137_25 {L : Lo} {S : List Value} {h : Hp} {x0 x1 x2 x3 x4 : Option Value} {v : Int32} : Run 137 25 (x0 :: x1 :: x2 :: x3 :: x4 :: some (.int v) :: L) S h = Run 137 27 (x0 :: x1 :: x2 :: x3 :: x4 :: some (.int v) :: L) (.int v :: S) h := Rg rfl
set_option maxRecDepth 100000 in
theorem e137_27 {L : Lo} {S : List Value} {h : Hp} : Run 137 27 L S h = Run 137 28 L (.int 1 :: S) h := Rg rfl
set_option maxRecDepth 100000 in
theorem e137_28 {L : Lo} {S : List Value} {h : Hp} {x z : Int32} : Run 137 28 L (.int z :: .int x :: S) h = Run 137 29 L (.int (x + z) :: S) h := Rg rfl
set_option maxRecDepth 100000 in
theorem e137_29 {L : Lo} {S : List Value} {h : Hp} : Run 137 29 L S h = Run 137 31 L (.int 6 :: S) h := Rg rfl
set_option maxRecDepth 100000 in
theorem e137_31 {L : Lo} {S : List Value} {h : Hp} {x z : Int32} (hz : ¬ z = 0) : Run 137 31 L (.int z :: .int x :: S) h = Run 137 32 L (.int (x - x / z * z) :: S) h := Rg (if_neg hz)
set_option maxRecDepth 100000 in
theorem e137_32 {L : Lo} {S : List Value} {h : Hp} {x0 x1 x2 x3 x4 x5 : Option Value} {y : Option Value} {v : Int32} : Run 137 32 (x0 :: x1 :: x2 :: x3 :: x4 :: x5 :: y :: L) (.int v :: S) h = Run 137 34 (x0 :: x1 :: x2 :: x3 :: x4 :: ck x5 :: some (.int v) :: L) S h := Rg rfl
set_option maxRecDepth 100000 in
theorem e137_34 {L : Lo} {S : List Value} {h : Hp} {x0 x1 x2 x3 x4 : Option Value} {v : Int32} : Run 137 34 (x0 :: x1 :: x2 :: x3 :: x4 :: some (.int v) :: L) S h = Run 137 36 (x0 :: x1 :: x2 :: x3 :: x4 :: some (.int v) :: L) (.int v :: S) h := Rg rfl
set_option maxRecDepth 100000 in
theorem e137_36 {L : Lo} {h : Hp} {a0 : Int32} : Run 137 36 L [.int a0] h = (Run 128 0 [some (.int a0)] [] h).bind fun o => aft 137 36 39 L [] o := Rc (c := 128) (As := [.int a0]) (S' := []) (pc' := 39) rfl
set_option maxRecDepth 100000 in
theorem e137_39 {L : Lo} {S : List Value} {h : Hp} {x0 x1 x2 x3 x4 x5 : Option Value} {v : Int32} : Run 137 39 (x0 :: x1 :: x2 :: x3 :: x4 :: x5 :: some (.int v) :: L) S h = Run 137 41 (x0 :: x1 :: x2 :: x3 :: x4 :: x5 :: some (.int v) :: L) (.int v :: S) h := Rg rfl
set_option maxRecDepth 100000 in
theorem e137_41 {L : Lo} {h : Hp} {a1 : Int32} {a0 : Int32} : Run 137 41 L [.int a1, .int a0] h = (Run 129 0 [some (.int a1)] [] h).bind fun o => aft 137 41 44 L [.int a0] o := Rc (c := 129) (As := [.int a1]) (S' := [.int a0]) (pc' := 44) rfl
set_option maxRecDepth 100000 in
theorem e137_44 {L : Lo} {S : List Value} {h : Hp} {x z : Int32} : Run 137 44 L (.int z :: .int x :: S) h = Run 137 45 L (.int (x * z) :: S) h := Rg rfl
set_option maxRecDepth 100000 in
theorem e137_45 {L : Lo} {S : List Value} {h : Hp} {x0 x1 x2 x3 x4 : Option Value} {v : Int32} : Run 137 45 (x0 :: x1 :: x2 :: x3 :: x4 :: some (.int v) :: L) S h = Run 137 47 (x0 :: x1 :: x2 :: x3 :: x4 :: some (.int v) :: L) (.int v :: S) h := Rg rfl
set_option maxRecDepth 100000 in
theorem e137_47 {L : Lo} {h : Hp} {a1 : Int32} {a0 : Int32} : Run 137 47 L [.int a1, .int a0] h = (Run 129 0 [some (.int a1)] [] h).bind fun o => aft 137 47 50 L [.int a0] o := Rc (c := 129) (As := [.int a1]) (S' := [.int a0]) (pc' := 50) rfl
set_option maxRecDepth 100000 in
theorem e137_50 {L : Lo} {S : List Value} {h : Hp} {x0 x1 x2 x3 x4 x5 : Option Value} {v : Int32} : Run 137 50 (x0 :: x1 :: x2 :: x3 :: x4 :: x5 :: some (.int v) :: L) S h = Run 137 52 (x0 :: x1 :: x2 :: x3 :: x4 :: x5 :: some (.int v) :: L) (.int v :: S) h := Rg rfl
set_option maxRecDepth 100000 in
theorem e137_52 {L : Lo} {h : Hp} {a2 : Int32} {a1 : Int32} {a0 : Int32} : Run 137 52 L [.int a2, .int a1, .int a0] h = (Run 128 0 [some (.int a2)] [] h).bind fun o => aft 137 52 55 L [.int a1, .int a0] o := Rc (c := 128) (As := [.int a2]) (S' := [.int a1, .int a0]) (pc' := 55) rfl
set_option maxRecDepth 100000 in
theorem e137_55 {L : Lo} {S : List Value} {h : Hp} {x z : Int32} : Run 137 55 L (.int z :: .int x :: S) h = Run 137 56 L (.int (x * z) :: S) h := Rg rfl
set_option maxRecDepth 100000 in
theorem e137_56 {L : Lo} {S : List Value} {h : Hp} {x z : Int32} : Run 137 56 L (.int z :: .int x :: S) h = Run 137 57 L (.int (x - z) :: S) h := Rg rfl
set_option maxRecDepth 100000 in
theorem e137_57 {L : Lo} {S : List Value} {h : Hp} {x0 x1 x2 x3 x4 x5 x6 : Option Value} {y : Option Value} {v : Int32} : Run 137 57 (x0 :: x1 :: x2 :: x3 :: x4 :: x5 :: x6 :: y :: L) (.int v :: S) h = Run 137 59 (x0 :: x1 :: x2 :: x3 :: x4 :: x5 :: ck x6 :: some (.int v) :: L) S h := Rg rfl
set_option maxRecDepth 100000 in
theorem e137_59 {L : Lo} {S : List Value} {h : Hp} {x0 x1 x2 : Option Value} {v : Int32} : Run 137 59 (x0 :: x1 :: x2 :: some (.int v) :: L) S h = Run 137 60 (x0 :: x1 :: x2 :: some (.int v) :: L) (.int v :: S) h := Rg rfl
set_option maxRecDepth 100000 in
theorem e137_60 {L : Lo} {S : List Value} {h : Hp} {x0 x1 x2 x3 x4 x5 : Option Value} {v : Int32} : Run 137 60 (x0 :: x1 :: x2 :: x3 :: x4 :: x5 :: some (.int v) :: L) S h = Run 137 62 (x0 :: x1 :: x2 :: x3 :: x4 :: x5 :: some (.int v) :: L) (.int v :: S) h := Rg rfl
set_option maxRecDepth 100000 in
theorem e137_62 {L : Lo} {h : Hp} {a1 : Int32} {a0 : Int32} : Run 137 62 L [.int a1, .int a0] h = (Run 129 0 [some (.int a1)] [] h).bind fun o => aft 137 62 65 L [.int a0] o := Rc (c := 129) (As := [.int a1]) (S' := [.int a0]) (pc' := 65) rfl
set_option maxRecDepth 100000 in
theorem e137_65 {L : Lo} {S : List Value} {h : Hp} {x z : Int32} : Run 137 65 L (.int z :: .int x :: S) h = Run 137 66 L (.int (x * z) :: S) h := Rg rfl
set_option maxRecDepth 100000 in
theorem e137_66 {L : Lo} {S : List Value} {h : Hp} {x0 x1 x2 x3 : Option Value} {v : Int32} : Run 137 66 (x0 :: x1 :: x2 :: x3 :: some (.int v) :: L) S h = Run 137 68 (x0 :: x1 :: x2 :: x3 :: some (.int v) :: L) (.int v :: S) h := Rg rfl
set_option maxRecDepth 100000 in
theorem e137_68 {L : Lo} {S : List Value} {h : Hp} {x0 x1 x2 x3 x4 x5 : Option Value} {v : Int32} : Run 137 68 (x0 :: x1 :: x2 :: x3 :: x4 :: x5 :: some (.int v) :: L) S h = Run 137 70 (x0 :: x1 :: x2 :: x3 :: x4 :: x5 :: some (.int v) :: L) (.int v :: S) h := Rg rfl
set_option maxRecDepth 100000 in
theorem e137_70 {L : Lo} {h : Hp} {a2 : Int32} {a1 : Int32} {a0 : Int32} : Run 137 70 L [.int a2, .int a1, .int a0] h = (Run 128 0 [some (.int a2)] [] h).bind fun o => aft 137 70 73 L [.int a1, .int a0] o := Rc (c := 128) (As := [.int a2]) (S' := [.int a1, .int a0]) (pc' := 73) rfl
set_option maxRecDepth 100000 in
theorem e137_73 {L : Lo} {S : List Value} {h : Hp} {x z : Int32} : Run 137 73 L (.int z :: .int x :: S) h = Run 137 74 L (.int (x * z) :: S) h := Rg rfl
set_option maxRecDepth 100000 in
theorem e137_74 {L : Lo} {S : List Value} {h : Hp} {x z : Int32} : Run 137 74 L (.int z :: .int x :: S) h = Run 137 75 L (.int (x - z) :: S) h := Rg rfl
set_option maxRecDepth 100000 in
theorem e137_75 {L : Lo} {S : List Value} {h : Hp} {x0 x1 x2 x3 x4 x5 x6 : Option Value} {v : Int32} : Run 137 75 (x0 :: x1 :: x2 :: x3 :: x4 :: x5 :: x6 :: some (.int v) :: L) S h = Run 137 77 (x0 :: x1 :: x2 :: x3 :: x4 :: x5 :: x6 :: some (.int v) :: L) (.int v :: S) h := Rg rfl
set_option maxRecDepth 100000 in
theorem e137_77 {L : Lo} {S : List Value} {h : Hp} {x z : Int32} (hz : ¬ z = 0) : Run 137 77 L (.int z :: .int x :: S) h = Run 137 78 L (.int (x / z) :: S) h := Rg (if_neg hz)
set_option maxRecDepth 100000 in
theorem e137_78 {L : Lo} {S : List Value} {h : Hp} {x0 x1 x2 x3 x4 x5 x6 x7 : Option Value} {y : Option Value} {v : Int32} : Run 137 78 (x0 :: x1 :: x2 :: x3 :: x4 :: x5 :: x6 :: x7 :: y :: L) (.int v :: S) h = Run 137 80 (x0 :: x1 :: x2 :: x3 :: x4 :: x5 :: x6 :: ck x7 :: some (.int v) :: L) S h := Rg rfl
set_option maxRecDepth 100000 in
theorem e137_80 {L : Lo} {S : List Value} {h : Hp} {x0 x1 x2 x3 x4 : Option Value} {v : Int32} : Run 137 80 (x0 :: x1 :: x2 :: x3 :: x4 :: some (.int v) :: L) S h = Run 137 82 (x0 :: x1 :: x2 :: x3 :: x4 :: some (.int v) :: L) (.int v :: S) h := Rg rfl
set_option maxRecDepth 100000 in
theorem e137_82 {L : Lo} {h : Hp} {a0 : Int32} : Run 137 82 L [.int a0] h = (Run 128 0 [some (.int a0)] [] h).bind fun o => aft 137 82 85 L [] o := Rc (c := 128) (As := [.int a0]) (S' := []) (pc' := 85) rfl
set_option maxRecDepth 100000 in
theorem e137_85 {L : Lo} {S : List Value} {h : Hp} {x0 x1 x2 x3 : Option Value} {v : Int32} : Run 137 85 (x0 :: x1 :: x2 :: x3 :: some (.int v) :: L) S h = Run 137 87 (x0 :: x1 :: x2 :: x3 :: some (.int v) :: L) (.int v :: S) h := Rg rfl
set_option maxRecDepth 100000 in
theorem e137_87 {L : Lo} {S : List Value} {h : Hp} {x z : Int32} : Run 137 87 L (.int z :: .int x :: S) h = Run 137 88 L (.int (x * z) :: S) h := Rg rfl
set_option maxRecDepth 100000 in
theorem e137_88 {L : Lo} {S : List Value} {h : Hp} {x0 x1 x2 x3 x4 : Option Value} {v : Int32} : Run 137 88 (x0 :: x1 :: x2 :: x3 :: x4 :: some (.int v) :: L) S h = Run 137 90 (x0 :: x1 :: x2 :: x3 :: x4 :: some (.int v) :: L) (.int v :: S) h := Rg rfl
set_option maxRecDepth 100000 in
theorem e137_90 {L : Lo} {h : Hp} {a1 : Int32} {a0 : Int32} : Run 137 90 L [.int a1, .int a0] h = (Run 129 0 [some (.int a1)] [] h).bind fun o => aft 137 90 93 L [.int a0] o := Rc (c := 129) (As := [.int a1]) (S' := [.int a0]) (pc' := 93) rfl
set_option maxRecDepth 100000 in
theorem e137_93 {L : Lo} {S : List Value} {h : Hp} {x0 x1 x2 : Option Value} {v : Int32} : Run 137 93 (x0 :: x1 :: x2 :: some (.int v) :: L) S h = Run 137 94 (x0 :: x1 :: x2 :: some (.int v) :: L) (.int v :: S) h := Rg rfl
set_option maxRecDepth 100000 in
theorem e137_94 {L : Lo} {S : List Value} {h : Hp} {x z : Int32} : Run 137 94 L (.int z :: .int x :: S) h = Run 137 95 L (.int (x * z) :: S) h := Rg rfl
set_option maxRecDepth 100000 in
theorem e137_95 {L : Lo} {S : List Value} {h : Hp} {x z : Int32} : Run 137 95 L (.int z :: .int x :: S) h = Run 137 96 L (.int (x - z) :: S) h := Rg rfl
set_option maxRecDepth 100000 in
theorem e137_96 {L : Lo} {S : List Value} {h : Hp} {x0 x1 x2 x3 x4 x5 x6 : Option Value} {v : Int32} : Run 137 96 (x0 :: x1 :: x2 :: x3 :: x4 :: x5 :: x6 :: some (.int v) :: L) S h = Run 137 98 (x0 :: x1 :: x2 :: x3 :: x4 :: x5 :: x6 :: some (.int v) :: L) (.int v :: S) h := Rg rfl
set_option maxRecDepth 100000 in
theorem e137_98 {L : Lo} {S : List Value} {h : Hp} {x z : Int32} (hz : ¬ z = 0) : Run 137 98 L (.int z :: .int x :: S) h = Run 137 99 L (.int (x / z) :: S) h := Rg (if_neg hz)
set_option maxRecDepth 100000 in
theorem e137_99 {L : Lo} {S : List Value} {h : Hp} {x0 x1 x2 x3 x4 x5 x6 x7 x8 : Option Value} {y : Option Value} {v : Int32} : Run 137 99 (x0 :: x1 :: x2 :: x3 :: x4 :: x5 :: x6 :: x7 :: x8 :: y :: L) (.int v :: S) h = Run 137 101 (x0 :: x1 :: x2 :: x3 :: x4 :: x5 :: x6 :: x7 :: ck x8 :: some (.int v) :: L) S h := Rg rfl
set_option maxRecDepth 100000 in
theorem e137_101 {L : Lo} {S : List Value} {h : Hp} {x0 x1 x2 x3 x4 x5 x6 x7 : Option Value} {v : Int32} : Run 137 101 (x0 :: x1 :: x2 :: x3 :: x4 :: x5 :: x6 :: x7 :: some (.int v) :: L) S h = Run 137 103 (x0 :: x1 :: x2 :: x3 :: x4 :: x5 :: x6 :: x7 :: some (.int v) :: L) (.int v :: S) h := Rg rfl
set_option maxRecDepth 100000 in
theorem e137_103 {L : Lo} {S : List Value} {h : Hp} {x : Int32} : Run 137 103 L (.int x :: S) h = if x ≤ 0 then Run 137 127 L S h else Run 137 106 L S h := Rbr (c := cnd .le x 0 = true) (off := 24) rfl rfl cnd_le
set_option maxRecDepth 100000 in
theorem e137_106 {L : Lo} {S : List Value} {h : Hp} {x0 x1 x2 x3 x4 x5 x6 x7 x8 : Option Value} {v : Int32} : Run 137 106 (x0 :: x1 :: x2 :: x3 :: x4 :: x5 :: x6 :: x7 :: x8 :: some (.int v) :: L) S h = Run 137 108 (x0 :: x1 :: x2 :: x3 :: x4 :: x5 :: x6 :: x7 :: x8 :: some (.int v) :: L) (.int v :: S) h := Rg rfl
set_option maxRecDepth 100000 in
theorem e137_108 {L : Lo} {S : List Value} {h : Hp} {x : Int32} : Run 137 108 L (.int x :: S) h = if x < 0 then Run 137 127 L S h else Run 137 111 L S h := Rbr (c := cnd .lt x 0 = true) (off := 19) rfl rfl cnd_lt
set_option maxRecDepth 100000 in
theorem e137_111 {L : Lo} {S : List Value} {h : Hp} {x0 x1 x2 x3 x4 x5 x6 x7 x8 : Option Value} {v : Int32} : Run 137 111 (x0 :: x1 :: x2 :: x3 :: x4 :: x5 :: x6 :: x7 :: x8 :: some (.int v) :: L) S h = Run 137 113 (x0 :: x1 :: x2 :: x3 :: x4 :: x5 :: x6 :: x7 :: x8 :: some (.int v) :: L) (.int v :: S) h := Rg rfl
set_option maxRecDepth 100000 in
theorem e137_113 {L : Lo} {S : List Value} {h : Hp} {x : Int32} : Run 137 113 L (.int x :: S) h = if x = 0 then Run 137 116 L S h else Run 137 124 L S h := RbrN (c := cnd .ne x 0 = true) (off := 11) rfl rfl cnd_ne
set_option maxRecDepth 100000 in
theorem e137_116 {L : Lo} {S : List Value} {h : Hp} {x0 x1 x2 x3 x4 : Option Value} {v : Int32} : Run 137 116 (x0 :: x1 :: x2 :: x3 :: x4 :: some (.int v) :: L) S h = Run 137 118 (x0 :: x1 :: x2 :: x3 :: x4 :: some (.int v) :: L) (.int v :: S) h := Rg rfl
set_option maxRecDepth 100000 in
theorem e137_118 {L : Lo} {S : List Value} {h : Hp} : Run 137 118 L S h = Run 137 120 L (.int 10 :: S) h := Rg rfl
set_option maxRecDepth 100000 in
theorem e137_120 {L : Lo} {S : List Value} {h : Hp} {x z : Int32} : Run 137 120 L (.int z :: .int x :: S) h = Run 137 121 L (.int (x + z) :: S) h := Rg rfl
set_option maxRecDepth 100000 in
theorem e137_121 {L : Lo} {S : List Value} {h : Hp} : Run 137 121 L S h = Run 137 126 L S h := Rg rfl
set_option maxRecDepth 100000 in
theorem e137_124 {L : Lo} {S : List Value} {h : Hp} {x0 x1 x2 x3 x4 : Option Value} {v : Int32} : Run 137 124 (x0 :: x1 :: x2 :: x3 :: x4 :: some (.int v) :: L) S h = Run 137 126 (x0 :: x1 :: x2 :: x3 :: x4 :: some (.int v) :: L) (.int v :: S) h := Rg rfl
set_option maxRecDepth 100000 in
theorem e137_126 {L : Lo} {h : Hp} {x : Int32} : Run 137 126 L [.int x] h = some (.inl (some (.int x)), h) := Rd (if_pos (c := narrow .int (.int x) = .int x) rfl)
set_option maxRecDepth 100000 in
theorem e137_127 {L : Lo} {S : List Value} {h : Hp} {x0 x1 x2 x3 x4 : Option Value} {v : Int32} : Run 137 127 (x0 :: x1 :: x2 :: x3 :: x4 :: some (.int v) :: L) S h = Run 137 130 (x0 :: x1 :: x2 :: x3 :: x4 :: some (.int (v + 1)) :: L) S h := Rg rfl
set_option maxRecDepth 100000 in
theorem e137_130 {L : Lo} {S : List Value} {h : Hp} : Run 137 130 L S h = Run 137 18 L S h := Rg rfl
set_option maxRecDepth 100000 in
theorem e137_133 {L : Lo} {S : List Value} {h : Hp} : Run 137 133 L S h = Run 137 134 L (.int (-1) :: S) h := Rg rfl
set_option maxRecDepth 100000 in
theorem e137_134 {L : Lo} {h : Hp} {x : Int32} : Run 137 134 L [.int x] h = some (.inl (some (.int x)), h) := Rd (if_pos (c := narrow .int (.int x) = .int x) rfl)
set_option maxRecDepth 100000 in
theorem e138_0 {L : Lo} {S : List Value} {h : Hp} {v : Nat} : Run 138 0 (some (.ref v) :: L) S h = Run 138 1 (some (.ref v) :: L) (.ref v :: S) h := Rg rfl
set_option maxRecDepth 100000 in
theorem e138_1 {L : Lo} {S : List Value} {h : Hp} {v : Nat} : Run 138 1 (some (.ref v) :: L) S h = Run 138 2 (some (.ref v) :: L) (.ref v :: S) h := Rg rfl
set_option maxRecDepth 100000 in
theorem e138_2 {L : Lo} {S : List Value} {h : Hp} {x0 : Option Value} {v : Int32} : Run 138 2 (x0 :: some (.int v) :: L) S h = Run 138 3 (x0 :: some (.int v) :: L) (.int v :: S) h := Rg rfl
set_option maxRecDepth 100000 in
theorem e138_3 {L : Lo} {S : List Value} {h : Hp} : Run 138 3 L S h = Run 138 4 L (.int 1 :: S) h := Rg rfl
set_option maxRecDepth 100000 in
theorem e138_4 {L : Lo} {h : Hp} {a3 : Int32} {a2 : Int32} {a1 : Nat} {a0 : Nat} (hO : isO h a1 9 = true) : Run 138 4 L [.int a3, .int a2, .ref a1, .ref a0] h = (Run 125 0 [some (.ref a1), some (.int a2), some (.int a3)] [] h).bind fun o => aft 138 4 7 L [.ref a0] o := Rcv (c := 125) (As := [.int a2, .int a3]) (S' := [.ref a0]) (pc' := 7) 9 rfl hO
set_option maxRecDepth 100000 in
theorem e138_7 {L : Lo} {S : List Value} {h : Hp} {x0 x1 : Option Value} {v : Int32} : Run 138 7 (x0 :: x1 :: some (.int v) :: L) S h = Run 138 8 (x0 :: x1 :: some (.int v) :: L) (.int v :: S) h := Rg rfl
set_option maxRecDepth 100000 in
theorem e138_8 {L : Lo} {h : Hp} {a2 : Int32} {a1 : Int32} {a0 : Nat} (hO : isO h a0 9 = true) : Run 138 8 L [.int a2, .int a1, .ref a0] h = (Run 137 0 [some (.ref a0), some (.int a1), some (.int a2), none, none, none, none, none, none, none] [] h).bind fun o => aft 138 8 11 L [] o := Rcv (c := 137) (As := [.int a1, .int a2]) (S' := []) (pc' := 11) 9 rfl hO
set_option maxRecDepth 100000 in
theorem e138_11 {L : Lo} {S : List Value} {h : Hp} {x0 x1 x2 : Option Value} {y : Option Value} {v : Int32} : Run 138 11 (x0 :: x1 :: x2 :: y :: L) (.int v :: S) h = Run 138 12 (x0 :: x1 :: ck x2 :: some (.int v) :: L) S h := Rg rfl
set_option maxRecDepth 100000 in
theorem e138_12 {L : Lo} {S : List Value} {h : Hp} {x0 x1 x2 : Option Value} {v : Int32} : Run 138 12 (x0 :: x1 :: x2 :: some (.int v) :: L) S h = Run 138 13 (x0 :: x1 :: x2 :: some (.int v) :: L) (.int v :: S) h := Rg rfl
set_option maxRecDepth 100000 in
theorem e138_13 {L : Lo} {S : List Value} {h : Hp} : Run 138 13 L S h = Run 138 15 L (.int 10 :: S) h := Rg rfl
set_option maxRecDepth 100000 in
theorem e138_15 {L : Lo} {S : List Value} {h : Hp} {x z : Int32} (hz : ¬ z = 0) : Run 138 15 L (.int z :: .int x :: S) h = Run 138 16 L (.int (x - x / z * z) :: S) h := Rg (if_neg hz)
set_option maxRecDepth 100000 in
theorem e138_16 {L : Lo} {S : List Value} {h : Hp} {v : Nat} : Run 138 16 (some (.ref v) :: L) S h = Run 138 17 (some (.ref v) :: L) (.ref v :: S) h := Rg rfl
set_option maxRecDepth 100000 in
theorem e138_17 {L : Lo} {S : List Value} {h : Hp} {x0 : Option Value} {v : Int32} : Run 138 17 (x0 :: some (.int v) :: L) S h = Run 138 18 (x0 :: some (.int v) :: L) (.int v :: S) h := Rg rfl
set_option maxRecDepth 100000 in
theorem e138_18 {L : Lo} {S : List Value} {h : Hp} : Run 138 18 L S h = Run 138 19 L (.int 2 :: S) h := Rg rfl
set_option maxRecDepth 100000 in
theorem e138_19 {L : Lo} {h : Hp} {a3 : Int32} {a2 : Int32} {a1 : Nat} {a0 : Int32} (hO : isO h a1 9 = true) : Run 138 19 L [.int a3, .int a2, .ref a1, .int a0] h = (Run 125 0 [some (.ref a1), some (.int a2), some (.int a3)] [] h).bind fun o => aft 138 19 22 L [.int a0] o := Rcv (c := 125) (As := [.int a2, .int a3]) (S' := [.int a0]) (pc' := 22) 9 rfl hO
set_option maxRecDepth 100000 in
theorem e138_22 {L : Lo} {S : List Value} {h : Hp} {x z : Int32} : Run 138 22 L (.int z :: .int x :: S) h = Run 138 23 L (.int (x - z) :: S) h := Rg rfl
set_option maxRecDepth 100000 in
theorem e138_23 {L : Lo} {S : List Value} {h : Hp} : Run 138 23 L S h = Run 138 25 L (.int 6 :: S) h := Rg rfl
set_option maxRecDepth 100000 in
theorem e138_25 {L : Lo} {S : List Value} {h : Hp} {x z : Int32} : Run 138 25 L (.int z :: .int x :: S) h = Run 138 26 L (.int (x + z) :: S) h := Rg rfl
set_option maxRecDepth 100000 in
theorem e138_26 {L : Lo} {S : List Value} {h : Hp} : Run 138 26 L S h = Run 138 28 L (.int 6 :: S) h := Rg rfl
set_option maxRecDepth 100000 in
theorem e138_28 {L : Lo} {S : List Value} {h : Hp} {x z : Int32} (hz : ¬ z = 0) : Run 138 28 L (.int z :: .int x :: S) h = Run 138 29 L (.int (x - x / z * z) :: S) h := Rg (if_neg hz)
set_option maxRecDepth 100000 in
theorem e138_29 {L : Lo} {S : List Value} {h : Hp} {x0 x1 x2 x3 : Option Value} {y : Option Value} {v : Int32} : Run 138 29 (x0 :: x1 :: x2 :: x3 :: y :: L) (.int v :: S) h = Run 138 31 (x0 :: x1 :: x2 :: ck x3 :: some (.int v) :: L) S h := Rg rfl
set_option maxRecDepth 100000 in
theorem e138_31 {L : Lo} {S : List Value} {h : Hp} {x0 x1 x2 : Option Value} {v : Int32} : Run 138 31 (x0 :: x1 :: x2 :: some (.int v) :: L) S h = Run 138 32 (x0 :: x1 :: x2 :: some (.int v) :: L) (.int v :: S) h := Rg rfl
set_option maxRecDepth 100000 in
theorem e138_32 {L : Lo} {S : List Value} {h : Hp} : Run 138 32 L S h = Run 138 34 L (.int 10 :: S) h := Rg rfl
set_option maxRecDepth 100000 in
theorem e138_34 {L : Lo} {S : List Value} {h : Hp} {x z : Int32} : Run 138 34 L (.int z :: .int x :: S) h = if x < z then Run 138 41 L S h else Run 138 37 L S h := Rbr (c := cnd .lt x z = true) (off := 7) rfl rfl cnd_lt
set_option maxRecDepth 100000 in
theorem e138_37 {L : Lo} {S : List Value} {h : Hp} : Run 138 37 L S h = Run 138 38 L (.int 1 :: S) h := Rg rfl
set_option maxRecDepth 100000 in
theorem e138_38 {L : Lo} {S : List Value} {h : Hp} : Run 138 38 L S h = Run 138 42 L S h := Rg rfl
set_option maxRecDepth 100000 in
theorem e138_41 {L : Lo} {S : List Value} {h : Hp} : Run 138 41 L S h = Run 138 42 L (.int 0 :: S) h := Rg rfl
set_option maxRecDepth 100000 in
theorem e138_42 {L : Lo} {S : List Value} {h : Hp} {x0 x1 x2 x3 x4 : Option Value} {y : Option Value} {v : Int32} : Run 138 42 (x0 :: x1 :: x2 :: x3 :: x4 :: y :: L) (.int v :: S) h = Run 138 44 (x0 :: x1 :: x2 :: x3 :: ck x4 :: some (.int v) :: L) S h := Rg rfl
set_option maxRecDepth 100000 in
theorem e138_44 {L : Lo} {S : List Value} {h : Hp} {x0 x1 x2 x3 : Option Value} {v : Int32} : Run 138 44 (x0 :: x1 :: x2 :: x3 :: some (.int v) :: L) S h = Run 138 46 (x0 :: x1 :: x2 :: x3 :: some (.int v) :: L) (.int v :: S) h := Rg rfl
set_option maxRecDepth 100000 in
theorem e138_46 {L : Lo} {S : List Value} {h : Hp} : Run 138 46 L S h = Run 138 47 L (.int 1 :: S) h := Rg rfl
set_option maxRecDepth 100000 in
theorem e138_47 {L : Lo} {S : List Value} {h : Hp} {x z : Int32} : Run 138 47 L (.int z :: .int x :: S) h = if x = z then Run 138 61 L S h else Run 138 50 L S h := Rbr (c := cnd .eq x z = true) (off := 14) rfl rfl cnd_eq
set_option maxRecDepth 100000 in
theorem e138_50 {L : Lo} {S : List Value} {h : Hp} {x0 x1 x2 x3 : Option Value} {v : Int32} : Run 138 50 (x0 :: x1 :: x2 :: x3 :: some (.int v) :: L) S h = Run 138 52 (x0 :: x1 :: x2 :: x3 :: some (.int v) :: L) (.int v :: S) h := Rg rfl
set_option maxRecDepth 100000 in
theorem e138_52 {L : Lo} {S : List Value} {h : Hp} : Run 138 52 L S h = Run 138 53 L (.int 2 :: S) h := Rg rfl
set_option maxRecDepth 100000 in
theorem e138_53 {L : Lo} {S : List Value} {h : Hp} {x z : Int32} : Run 138 53 L (.int z :: .int x :: S) h = if x = z then Run 138 56 L S h else Run 138 65 L S h := RbrN (c := cnd .ne x z = true) (off := 12) rfl rfl cnd_ne
set_option maxRecDepth 100000 in
theorem e138_56 {L : Lo} {S : List Value} {h : Hp} {x0 x1 x2 x3 x4 : Option Value} {v : Int32} : Run 138 56 (x0 :: x1 :: x2 :: x3 :: x4 :: some (.int v) :: L) S h = Run 138 58 (x0 :: x1 :: x2 :: x3 :: x4 :: some (.int v) :: L) (.int v :: S) h := Rg rfl
set_option maxRecDepth 100000 in
theorem e138_58 {L : Lo} {S : List Value} {h : Hp} {x : Int32} : Run 138 58 L (.int x :: S) h = if x = 0 then Run 138 65 L S h else Run 138 61 L S h := Rbr (c := cnd .eq x 0 = true) (off := 7) rfl rfl cnd_eq
set_option maxRecDepth 100000 in
theorem e138_61 {L : Lo} {S : List Value} {h : Hp} : Run 138 61 L S h = Run 138 62 L (.int 1 :: S) h := Rg rfl
set_option maxRecDepth 100000 in
theorem e138_62 {L : Lo} {S : List Value} {h : Hp} : Run 138 62 L S h = Run 138 87 L S h := Rg rfl
set_option maxRecDepth 100000 in
theorem e138_65 {L : Lo} {S : List Value} {h : Hp} {x0 x1 x2 x3 : Option Value} {v : Int32} : Run 138 65 (x0 :: x1 :: x2 :: x3 :: some (.int v) :: L) S h = Run 138 67 (x0 :: x1 :: x2 :: x3 :: some (.int v) :: L) (.int v :: S) h := Rg rfl
set_option maxRecDepth 100000 in
theorem e138_67 {L : Lo} {S : List Value} {h : Hp} : Run 138 67 L S h = Run 138 68 L (.int 4 :: S) h := Rg rfl
set_option maxRecDepth 100000 in
theorem e138_68 {L : Lo} {S : List Value} {h : Hp} {x z : Int32} : Run 138 68 L (.int z :: .int x :: S) h = if x = z then Run 138 82 L S h else Run 138 71 L S h := Rbr (c := cnd .eq x z = true) (off := 14) rfl rfl cnd_eq
set_option maxRecDepth 100000 in
theorem e138_71 {L : Lo} {S : List Value} {h : Hp} {x0 x1 x2 x3 : Option Value} {v : Int32} : Run 138 71 (x0 :: x1 :: x2 :: x3 :: some (.int v) :: L) S h = Run 138 73 (x0 :: x1 :: x2 :: x3 :: some (.int v) :: L) (.int v :: S) h := Rg rfl
set_option maxRecDepth 100000 in
theorem e138_73 {L : Lo} {S : List Value} {h : Hp} : Run 138 73 L S h = Run 138 74 L (.int 5 :: S) h := Rg rfl
set_option maxRecDepth 100000 in
theorem e138_74 {L : Lo} {S : List Value} {h : Hp} {x z : Int32} : Run 138 74 L (.int z :: .int x :: S) h = if x = z then Run 138 77 L S h else Run 138 86 L S h := RbrN (c := cnd .ne x z = true) (off := 12) rfl rfl cnd_ne
set_option maxRecDepth 100000 in
theorem e138_77 {L : Lo} {S : List Value} {h : Hp} {x0 x1 x2 x3 x4 : Option Value} {v : Int32} : Run 138 77 (x0 :: x1 :: x2 :: x3 :: x4 :: some (.int v) :: L) S h = Run 138 79 (x0 :: x1 :: x2 :: x3 :: x4 :: some (.int v) :: L) (.int v :: S) h := Rg rfl
set_option maxRecDepth 100000 in
theorem e138_79 {L : Lo} {S : List Value} {h : Hp} {x : Int32} : Run 138 79 L (.int x :: S) h = if x = 0 then Run 138 86 L S h else Run 138 82 L S h := Rbr (c := cnd .eq x 0 = true) (off := 7) rfl rfl cnd_eq
set_option maxRecDepth 100000 in
theorem e138_82 {L : Lo} {S : List Value} {h : Hp} : Run 138 82 L S h = Run 138 83 L (.int 0 :: S) h := Rg rfl
set_option maxRecDepth 100000 in
theorem e138_83 {L : Lo} {S : List Value} {h : Hp} : Run 138 83 L S h = Run 138 87 L S h := Rg rfl
set_option maxRecDepth 100000 in
theorem e138_86 {L : Lo} {S : List Value} {h : Hp} : Run 138 86 L S h = Run 138 87 L (.int (-1) :: S) h := Rg rfl
set_option maxRecDepth 100000 in
theorem e138_87 {L : Lo} {h : Hp} {x : Int32} : Run 138 87 L [.int x] h = some (.inl (some (.int x)), h) := Rd (if_pos (c := narrow .int (.int x) = .int x) rfl)
set_option maxRecDepth 100000 in
theorem e139_0 {L : Lo} {S : List Value} {h : Hp} {v : Nat} : Run 139 0 (some (.ref v) :: L) S h = Run 139 1 (some (.ref v) :: L) (.ref v :: S) h := Rg rfl
set_option maxRecDepth 100000 in
theorem e139_1 {L : Lo} {S : List Value} {h : Hp} {x0 : Option Value} {v : Int32} : Run 139 1 (x0 :: some (.int v) :: L) S h = Run 139 2 (x0 :: some (.int v) :: L) (.int v :: S) h := Rg rfl
set_option maxRecDepth 100000 in
theorem e139_2 {L : Lo} {S : List Value} {h : Hp} {x0 x1 : Option Value} {v : Int32} : Run 139 2 (x0 :: x1 :: some (.int v) :: L) S h = Run 139 3 (x0 :: x1 :: some (.int v) :: L) (.int v :: S) h := Rg rfl
set_option maxRecDepth 100000 in
theorem e139_3 {L : Lo} {h : Hp} {a2 : Int32} {a1 : Int32} {a0 : Nat} (hO : isO h a0 9 = true) : Run 139 3 L [.int a2, .int a1, .ref a0] h = (Run 137 0 [some (.ref a0), some (.int a1), some (.int a2), none, none, none, none, none, none, none] [] h).bind fun o => aft 139 3 6 L [] o := Rcv (c := 137) (As := [.int a1, .int a2]) (S' := []) (pc' := 6) 9 rfl hO
set_option maxRecDepth 100000 in
theorem e139_6 {L : Lo} {S : List Value} {h : Hp} {x0 x1 x2 : Option Value} {y : Option Value} {v : Int32} : Run 139 6 (x0 :: x1 :: x2 :: y :: L) (.int v :: S) h = Run 139 7 (x0 :: x1 :: ck x2 :: some (.int v) :: L) S h := Rg rfl
set_option maxRecDepth 100000 in
theorem e139_7 {L : Lo} {S : List Value} {h : Hp} {x0 x1 x2 : Option Value} {v : Int32} : Run 139 7 (x0 :: x1 :: x2 :: some (.int v) :: L) S h = Run 139 8 (x0 :: x1 :: x2 :: some (.int v) :: L) (.int v :: S) h := Rg rfl
set_option maxRecDepth 100000 in
theorem e139_8 {L : Lo} {S : List Value} {h : Hp} : Run 139 8 L S h = Run 139 10 L (.int 10 :: S) h := Rg rfl
set_option maxRecDepth 100000 in
theorem e139_10 {L : Lo} {S : List Value} {h : Hp} {x z : Int32} : Run 139 10 L (.int z :: .int x :: S) h = if z ≤ x then Run 139 15 L S h else Run 139 13 L S h := Rbr (c := cnd .ge x z = true) (off := 5) rfl rfl cnd_ge
set_option maxRecDepth 100000 in
theorem e139_13 {L : Lo} {S : List Value} {h : Hp} : Run 139 13 L S h = Run 139 14 L (.int 0 :: S) h := Rg rfl
set_option maxRecDepth 100000 in
theorem e139_14 {L : Lo} {h : Hp} {x : Int32} (hx : narrow .boolean (.int x) = .int x) : Run 139 14 L [.int x] h = some (.inl (some (.int x)), h) := Rd (if_pos hx)
set_option maxRecDepth 100000 in
theorem e139_15 {L : Lo} {S : List Value} {h : Hp} {v : Nat} : Run 139 15 (some (.ref v) :: L) S h = Run 139 16 (some (.ref v) :: L) (.ref v :: S) h := Rg rfl
set_option maxRecDepth 100000 in
theorem e139_16 {L : Lo} {S : List Value} {h : Hp} {x0 : Option Value} {v : Int32} : Run 139 16 (x0 :: some (.int v) :: L) S h = Run 139 17 (x0 :: some (.int v) :: L) (.int v :: S) h := Rg rfl
set_option maxRecDepth 100000 in
theorem e139_17 {L : Lo} {S : List Value} {h : Hp} {x0 x1 x2 : Option Value} {v : Int32} : Run 139 17 (x0 :: x1 :: x2 :: some (.int v) :: L) S h = Run 139 18 (x0 :: x1 :: x2 :: some (.int v) :: L) (.int v :: S) h := Rg rfl
set_option maxRecDepth 100000 in
theorem e139_18 {L : Lo} {S : List Value} {h : Hp} : Run 139 18 L S h = Run 139 20 L (.int 10 :: S) h := Rg rfl
set_option maxRecDepth 100000 in
theorem e139_20 {L : Lo} {S : List Value} {h : Hp} {x z : Int32} : Run 139 20 L (.int z :: .int x :: S) h = Run 139 21 L (.int (x - z) :: S) h := Rg rfl
set_option maxRecDepth 100000 in
theorem e139_21 {L : Lo} {h : Hp} {a2 : Int32} {a1 : Int32} {a0 : Nat} (hO : isO h a0 9 = true) : Run 139 21 L [.int a2, .int a1, .ref a0] h = (Run 130 0 [some (.ref a0), some (.int a1), some (.int a2), none, none] [] h).bind fun o => aft 139 21 24 L [] o := Rcv (c := 130) (As := [.int a1, .int a2]) (S' := []) (pc' := 24) 9 rfl hO
set_option maxRecDepth 100000 in
theorem e139_24 {L : Lo} {S : List Value} {h : Hp} {x0 x1 x2 x3 : Option Value} {y : Option Value} {v : Int32} : Run 139 24 (x0 :: x1 :: x2 :: x3 :: y :: L) (.int v :: S) h = Run 139 26 (x0 :: x1 :: x2 :: ck x3 :: some (.int v) :: L) S h := Rg rfl
set_option maxRecDepth 100000 in
theorem e139_26 {L : Lo} {S : List Value} {h : Hp} : Run 139 26 L S h = Run 139 27 L (.int 0 :: S) h := Rg rfl
set_option maxRecDepth 100000 in
theorem e139_27 {L : Lo} {S : List Value} {h : Hp} {x0 x1 x2 x3 x4 : Option Value} {y : Option Value} {v : Int32} : Run 139 27 (x0 :: x1 :: x2 :: x3 :: x4 :: y :: L) (.int v :: S) h = Run 139 29 (x0 :: x1 :: x2 :: x3 :: ck x4 :: some (.int v) :: L) S h := Rg rfl
set_option maxRecDepth 100000 in
theorem e139_29 {L : Lo} {S : List Value} {h : Hp} {x0 x1 x2 x3 : Option Value} {v : Int32} : Run 139 29 (x0 :: x1 :: x2 :: x3 :: some (.int v) :: L) S h = Run 139 31 (x0 :: x1 :: x2 :: x3 :: some (.int v) :: L) (.int v :: S) h := Rg rfl
set_option maxRecDepth 100000 in
theorem e139_31 {L : Lo} {S : List Value} {h : Hp} {x0 x1 : Option Value} {v : Int32} : Run 139 31 (x0 :: x1 :: some (.int v) :: L) S h = Run 139 32 (x0 :: x1 :: some (.int v) :: L) (.int v :: S) h := Rg rfl
set_option maxRecDepth 100000 in
theorem e139_32 {L : Lo} {S : List Value} {h : Hp} {x z : Int32} : Run 139 32 L (.int z :: .int x :: S) h = if x = z then Run 139 72 L S h else Run 139 35 L S h := Rbr (c := cnd .eq x z = true) (off := 40) rfl rfl cnd_eq
set_option maxRecDepth 100000 in
theorem e139_35 {L : Lo} {S : List Value} {h : Hp} {x0 x1 x2 x3 x4 : Option Value} {v : Int32} : Run 139 35 (x0 :: x1 :: x2 :: x3 :: x4 :: some (.int v) :: L) S h = Run 139 37 (x0 :: x1 :: x2 :: x3 :: x4 :: some (.int v) :: L) (.int v :: S) h := Rg rfl
set_option maxRecDepth 100000 in
theorem e139_37 {L : Lo} {S : List Value} {h : Hp} {x : Int32} : Run 139 37 L (.int x :: S) h = if x = 0 then Run 139 40 L S h else Run 139 50 L S h := RbrN (c := cnd .ne x 0 = true) (off := 13) rfl rfl cnd_ne
set_option maxRecDepth 100000 in
theorem e139_40 {L : Lo} {S : List Value} {h : Hp} {v : Nat} : Run 139 40 (some (.ref v) :: L) S h = Run 139 41 (some (.ref v) :: L) (.ref v :: S) h := Rg rfl
set_option maxRecDepth 100000 in
theorem e139_41 {L : Lo} {S : List Value} {h : Hp} {x0 x1 x2 x3 : Option Value} {v : Int32} : Run 139 41 (x0 :: x1 :: x2 :: x3 :: some (.int v) :: L) S h = Run 139 43 (x0 :: x1 :: x2 :: x3 :: some (.int v) :: L) (.int v :: S) h := Rg rfl
set_option maxRecDepth 100000 in
theorem e139_43 {L : Lo} {h : Hp} {a1 : Int32} {a0 : Nat} (hO : isO h a0 9 = true) : Run 139 43 L [.int a1, .ref a0] h = (Run 132 0 [some (.ref a0), some (.int a1)] [] h).bind fun o => aft 139 43 46 L [] o := Rcv (c := 132) (As := [.int a1]) (S' := []) (pc' := 46) 9 rfl hO
set_option maxRecDepth 100000 in
theorem e139_46 {L : Lo} {S : List Value} {h : Hp} : Run 139 46 L S h = Run 139 47 L (.int (-1) :: S) h := Rg rfl
set_option maxRecDepth 100000 in
theorem e139_47 {L : Lo} {S : List Value} {h : Hp} {x z : Int32} : Run 139 47 L (.int z :: .int x :: S) h = if x = z then Run 139 54 L S h else Run 139 50 L S h := Rbr (c := cnd .eq x z = true) (off := 7) rfl rfl cnd_eq
set_option maxRecDepth 100000 in
theorem e139_50 {L : Lo} {S : List Value} {h : Hp} : Run 139 50 L S h = Run 139 51 L (.int 1 :: S) h := Rg rfl
set_option maxRecDepth 100000 in
theorem e139_51 {L : Lo} {S : List Value} {h : Hp} : Run 139 51 L S h = Run 139 55 L S h := Rg rfl
set_option maxRecDepth 100000 in
theorem e139_54 {L : Lo} {S : List Value} {h : Hp} : Run 139 54 L S h = Run 139 55 L (.int 0 :: S) h := Rg rfl
set_option maxRecDepth 100000 in
theorem e139_55 {L : Lo} {S : List Value} {h : Hp} {x0 x1 x2 x3 x4 : Option Value} {y : Option Value} {v : Int32} : Run 139 55 (x0 :: x1 :: x2 :: x3 :: x4 :: y :: L) (.int v :: S) h = Run 139 57 (x0 :: x1 :: x2 :: x3 :: ck x4 :: some (.int v) :: L) S h := Rg rfl
set_option maxRecDepth 100000 in
theorem e139_57 {L : Lo} {S : List Value} {h : Hp} {v : Nat} : Run 139 57 (some (.ref v) :: L) S h = Run 139 58 (some (.ref v) :: L) (.ref v :: S) h := Rg rfl
set_option maxRecDepth 100000 in
theorem e139_58 {L : Lo} {S : List Value} {h : Hp} {x0 x1 x2 x3 : Option Value} {v : Int32} : Run 139 58 (x0 :: x1 :: x2 :: x3 :: some (.int v) :: L) S h = Run 139 60 (x0 :: x1 :: x2 :: x3 :: some (.int v) :: L) (.int v :: S) h := Rg rfl
set_option maxRecDepth 100000 in
theorem e139_60 {L : Lo} {S : List Value} {h : Hp} {x0 x1 x2 : Option Value} {v : Int32} : Run 139 60 (x0 :: x1 :: x2 :: some (.int v) :: L) S h = Run 139 61 (x0 :: x1 :: x2 :: some (.int v) :: L) (.int v :: S) h := Rg rfl
set_option maxRecDepth 100000 in
theorem e139_61 {L : Lo} {S : List Value} {h : Hp} : Run 139 61 L S h = Run 139 63 L (.int 10 :: S) h := Rg rfl
set_option maxRecDepth 100000 in
theorem e139_63 {L : Lo} {S : List Value} {h : Hp} {x z : Int32} : Run 139 63 L (.int z :: .int x :: S) h = Run 139 64 L (.int (x - z) :: S) h := Rg rfl
set_option maxRecDepth 100000 in
theorem e139_64 {L : Lo} {h : Hp} {a2 : Int32} {a1 : Int32} {a0 : Nat} (hO : isO h a0 9 = true) : Run 139 64 L [.int a2, .int a1, .ref a0] h = (Run 130 0 [some (.ref a0), some (.int a1), some (.int a2), none, none] [] h).bind fun o => aft 139 64 67 L [] o := Rcv (c := 130) (As := [.int a1, .int a2]) (S' := []) (pc' := 67) 9 rfl hO
set_option maxRecDepth 100000 in
theorem e139_67 {L : Lo} {S : List Value} {h : Hp} {x0 x1 x2 x3 : Option Value} {y : Option Value} {v : Int32} : Run 139 67 (x0 :: x1 :: x2 :: x3 :: y :: L) (.int v :: S) h = Run 139 69 (x0 :: x1 :: x2 :: ck x3 :: some (.int v) :: L) S h := Rg rfl
set_option maxRecDepth 100000 in
theorem e139_69 {L : Lo} {S : List Value} {h : Hp} : Run 139 69 L S h = Run 139 29 L S h := Rg rfl
set_option maxRecDepth 100000 in
theorem e139_72 {L : Lo} {S : List Value} {h : Hp} {x0 x1 x2 x3 x4 : Option Value} {v : Int32} : Run 139 72 (x0 :: x1 :: x2 :: x3 :: x4 :: some (.int v) :: L) S h = Run 139 74 (x0 :: x1 :: x2 :: x3 :: x4 :: some (.int v) :: L) (.int v :: S) h := Rg rfl
set_option maxRecDepth 100000 in
theorem e139_74 {L : Lo} {h : Hp} {x : Int32} (hx : narrow .boolean (.int x) = .int x) : Run 139 74 L [.int x] h = some (.inl (some (.int x)), h) := Rd (if_pos hx)
set_option maxRecDepth 100000 in
theorem e140_0 {L : Lo} {S : List Value} {h : Hp} {v : Nat} : Run 140 0 (some (.ref v) :: L) S h = Run 140 1 (some (.ref v) :: L) (.ref v :: S) h := Rg rfl
set_option maxRecDepth 100000 in
theorem e140_1 {L : Lo} {S : List Value} {h : Hp} {x0 : Option Value} {v : Int32} : Run 140 1 (x0 :: some (.int v) :: L) S h = Run 140 2 (x0 :: some (.int v) :: L) (.int v :: S) h := Rg rfl
set_option maxRecDepth 100000 in
theorem e140_2 {L : Lo} {S : List Value} {h : Hp} : Run 140 2 L S h = Run 140 3 L (.int 4 :: S) h := Rg rfl
set_option maxRecDepth 100000 in
theorem e140_3 {L : Lo} {S : List Value} {h : Hp} : Run 140 3 L S h = Run 140 5 L (.int 12 :: S) h := Rg rfl
set_option maxRecDepth 100000 in
theorem e140_5 {L : Lo} {h : Hp} {a3 : Int32} {a2 : Int32} {a1 : Int32} {a0 : Nat} : Run 140 5 L [.int a3, .int a2, .int a1, .ref a0] h = (Run 118 0 [some (.int a1), some (.int a2), some (.int a3)] [] h).bind fun o => aft 140 5 8 L [.ref a0] o := Rc (c := 118) (As := [.int a1, .int a2, .int a3]) (S' := [.ref a0]) (pc' := 8) rfl
set_option maxRecDepth 100000 in
theorem e140_8 {L : Lo} {S : List Value} {h : Hp} {x : Int32} : Run 140 8 L (.int x :: S) h = if x = 0 then Run 140 25 L S h else Run 140 11 L S h := Rbr (c := cnd .eq x 0 = true) (off := 17) rfl rfl cnd_eq
set_option maxRecDepth 100000 in
theorem e140_11 {L : Lo} {S : List Value} {h : Hp} {x0 x1 : Option Value} {v : Int32} : Run 140 11 (x0 :: x1 :: some (.int v) :: L) S h = Run 140 12 (x0 :: x1 :: some (.int v) :: L) (.int v :: S) h := Rg rfl
set_option maxRecDepth 100000 in
theorem e140_12 {L : Lo} {S : List Value} {h : Hp} : Run 140 12 L S h = Run 140 13 L (.int 4 :: S) h := Rg rfl
set_option maxRecDepth 100000 in
theorem e140_13 {L : Lo} {S : List Value} {h : Hp} : Run 140 13 L S h = Run 140 15 L (.int 12 :: S) h := Rg rfl
set_option maxRecDepth 100000 in
theorem e140_15 {L : Lo} {h : Hp} {a3 : Int32} {a2 : Int32} {a1 : Int32} {a0 : Nat} : Run 140 15 L [.int a3, .int a2, .int a1, .ref a0] h = (Run 118 0 [some (.int a1), some (.int a2), some (.int a3)] [] h).bind fun o => aft 140 15 18 L [.ref a0] o := Rc (c := 118) (As := [.int a1, .int a2, .int a3]) (S' := [.ref a0]) (pc' := 18) rfl
set_option maxRecDepth 100000 in
theorem e140_18 {L : Lo} {S : List Value} {h : Hp} {x : Int32} : Run 140 18 L (.int x :: S) h = if x = 0 then Run 140 25 L S h else Run 140 21 L S h := Rbr (c := cnd .eq x 0 = true) (off := 7) rfl rfl cnd_eq
set_option maxRecDepth 100000 in
theorem e140_21 {L : Lo} {S : List Value} {h : Hp} : Run 140 21 L S h = Run 140 22 L (.int 0 :: S) h := Rg rfl
set_option maxRecDepth 100000 in
theorem e140_22 {L : Lo} {S : List Value} {h : Hp} : Run 140 22 L S h = Run 140 26 L S h := Rg rfl
set_option maxRecDepth 100000 in
theorem e140_25 {L : Lo} {S : List Value} {h : Hp} : Run 140 25 L S h = Run 140 26 L (.int 1 :: S) h := Rg rfl
set_option maxRecDepth 100000 in
theorem e140_26 {L : Lo} {S : List Value} {h : Hp} {b : Nat} {v : Value} : Run 140 26 L (v :: .ref b :: S) h = (pf h 9 5 b v).bind fun h1 => Run 140 29 L S h1 := Rb rfl fun _ => rfl
set_option maxRecDepth 100000 in
theorem e140_29 {L : Lo} {S : List Value} {h : Hp} {v : Nat} : Run 140 29 (some (.ref v) :: L) S h = Run 140 30 (some (.ref v) :: L) (.ref v :: S) h := Rg rfl
set_option maxRecDepth 100000 in
theorem e140_30 {L : Lo} {S : List Value} {h : Hp} {b : Nat} : Run 140 30 L (.ref b :: S) h = (gf h 9 5 b).bind fun v => Run 140 33 L (v :: S) h := Rb rfl fun _ => rfl
set_option maxRecDepth 100000 in
theorem e140_33 {L : Lo} {S : List Value} {h : Hp} {x : Int32} : Run 140 33 L (.int x :: S) h = if x = 0 then Run 140 38 L S h else Run 140 36 L S h := Rbr (c := cnd .eq x 0 = true) (off := 5) rfl rfl cnd_eq
set_option maxRecDepth 100000 in
theorem e140_36 {L : Lo} {S : List Value} {h : Hp} : Run 140 36 L S h = Run 140 37 L (.int 0 :: S) h := Rg rfl
set_option maxRecDepth 100000 in
theorem e140_37 {L : Lo} {h : Hp} {x : Int32} : Run 140 37 L [.int x] h = some (.inl (some (.int x)), h) := Rd (if_pos (c := narrow .int (.int x) = .int x) rfl)
set_option maxRecDepth 100000 in
theorem e140_38 {L : Lo} {S : List Value} {h : Hp} {v : Nat} : Run 140 38 (some (.ref v) :: L) S h = Run 140 39 (some (.ref v) :: L) (.ref v :: S) h := Rg rfl
set_option maxRecDepth 100000 in
theorem e140_39 {L : Lo} {h : Hp} {a0 : Nat} (hO : isO h a0 9 = true) : Run 140 39 L [.ref a0] h = (Run 121 0 [some (.ref a0), none] [] h).bind fun o => aft 140 39 42 L [] o := Rcv (c := 121) (As := []) (S' := []) (pc' := 42) 9 rfl hO
set_option maxRecDepth 100000 in
theorem e140_42 {L : Lo} {S : List Value} {h : Hp} {v : Nat} : Run 140 42 (some (.ref v) :: L) S h = Run 140 43 (some (.ref v) :: L) (.ref v :: S) h := Rg rfl
set_option maxRecDepth 100000 in
theorem e140_43 {L : Lo} {S : List Value} {h : Hp} {b : Nat} : Run 140 43 L (.ref b :: S) h = (gf h 9 0 b).bind fun v => Run 140 46 L (v :: S) h := Rb rfl fun _ => rfl
set_option maxRecDepth 100000 in
theorem e140_46 {L : Lo} {S : List Value} {h : Hp} : Run 140 46 L S h = Run 140 47 L (.int 5 :: S) h := Rg rfl
set_option maxRecDepth 100000 in
theorem e140_47 {L : Lo} {S : List Value} {h : Hp} {i : Int32} {b : Nat} : Run 140 47 L (.int i :: .ref b :: S) h = (gaI h b i).bind fun v => Run 140 48 L (.int v :: S) h := Rb rfl fun _ => rfl
set_option maxRecDepth 100000 in
theorem e140_48 {L : Lo} {S : List Value} {h : Hp} {x0 x1 x2 : Option Value} {y : Option Value} {v : Int32} : Run 140 48 (x0 :: x1 :: x2 :: y :: L) (.int v :: S) h = Run 140 49 (x0 :: x1 :: ck x2 :: some (.int v) :: L) S h := Rg rfl
set_option maxRecDepth 100000 in
theorem e140_49 {L : Lo} {S : List Value} {h : Hp} {v : Nat} : Run 140 49 (some (.ref v) :: L) S h = Run 140 50 (some (.ref v) :: L) (.ref v :: S) h := Rg rfl
set_option maxRecDepth 100000 in
theorem e140_50 {L : Lo} {S : List Value} {h : Hp} {x0 : Option Value} {v : Int32} : Run 140 50 (x0 :: some (.int v) :: L) S h = Run 140 51 (x0 :: some (.int v) :: L) (.int v :: S) h := Rg rfl
set_option maxRecDepth 100000 in
theorem e140_51 {L : Lo} {S : List Value} {h : Hp} {x0 x1 : Option Value} {v : Int32} : Run 140 51 (x0 :: x1 :: some (.int v) :: L) S h = Run 140 52 (x0 :: x1 :: some (.int v) :: L) (.int v :: S) h := Rg rfl
set_option maxRecDepth 100000 in
theorem e140_52 {L : Lo} {h : Hp} {a2 : Int32} {a1 : Int32} {a0 : Nat} (hO : isO h a0 9 = true) : Run 140 52 L [.int a2, .int a1, .ref a0] h = (Run 116 0 [some (.ref a0), some (.int a1), some (.int a2), none] [] h).bind fun o => aft 140 52 55 L [] o := Rcv (c := 116) (As := [.int a1, .int a2]) (S' := []) (pc' := 55) 9 rfl hO
set_option maxRecDepth 100000 in
theorem e140_55 {L : Lo} {S : List Value} {h : Hp} {x0 x1 x2 : Option Value} {v : Int32} : Run 140 55 (x0 :: x1 :: x2 :: some (.int v) :: L) S h = Run 140 56 (x0 :: x1 :: x2 :: some (.int v) :: L) (.int v :: S) h := Rg rfl
set_option maxRecDepth 100000 in
theorem e140_56 {L : Lo} {h : Hp} {x : Int32} : Run 140 56 L [.int x] h = some (.inl (some (.int x)), h) := Rd (if_pos (c := narrow .int (.int x) = .int x) rfl)
set_option maxRecDepth 100000 in
theorem e141_0 {L : Lo} {S : List Value} {h : Hp} {v : Nat} : Run 141 0 (some (.ref v) :: L) S h = Run 141 1 (some (.ref v) :: L) (.ref v :: S) h := Rg rfl
set_option maxRecDepth 100000 in
theorem e141_1 {L : Lo} {S : List Value} {h : Hp} {v : Nat} : Run 141 1 (some (.ref v) :: L) S h = Run 141 2 (some (.ref v) :: L) (.ref v :: S) h := Rg rfl
set_option maxRecDepth 100000 in
theorem e141_2 {L : Lo} {S : List Value} {h : Hp} {x0 : Option Value} {v : Int32} : Run 141 2 (x0 :: some (.int v) :: L) S h = Run 141 3 (x0 :: some (.int v) :: L) (.int v :: S) h := Rg rfl
set_option maxRecDepth 100000 in
theorem e141_3 {L : Lo} {h : Hp} {a2 : Int32} {a1 : Nat} {a0 : Nat} (hO : isO h a1 9 = true) : Run 141 3 L [.int a2, .ref a1, .ref a0] h = (Run 123 0 [some (.ref a1), some (.int a2)] [] h).bind fun o => aft 141 3 6 L [.ref a0] o := Rcv (c := 123) (As := [.int a2]) (S' := [.ref a0]) (pc' := 6) 9 rfl hO
set_option maxRecDepth 100000 in
theorem e141_6 {L : Lo} {S : List Value} {h : Hp} {x : Int32} : Run 141 6 L (.int x :: S) h = if x = 0 then Run 141 9 L S h else Run 141 13 L S h := RbrN (c := cnd .ne x 0 = true) (off := 7) rfl rfl cnd_ne
set_option maxRecDepth 100000 in
theorem e141_9 {L : Lo} {S : List Value} {h : Hp} : Run 141 9 L S h = Run 141 10 L (.int 1 :: S) h := Rg rfl
set_option maxRecDepth 100000 in
theorem e141_10 {L : Lo} {S : List Value} {h : Hp} : Run 141 10 L S h = Run 141 27 L S h := Rg rfl
set_option maxRecDepth 100000 in
theorem e141_13 {L : Lo} {S : List Value} {h : Hp} {v : Nat} : Run 141 13 (some (.ref v) :: L) S h = Run 141 14 (some (.ref v) :: L) (.ref v :: S) h := Rg rfl
set_option maxRecDepth 100000 in
theorem e141_14 {L : Lo} {S : List Value} {h : Hp} {x0 : Option Value} {v : Int32} : Run 141 14 (x0 :: some (.int v) :: L) S h = Run 141 15 (x0 :: some (.int v) :: L) (.int v :: S) h := Rg rfl
set_option maxRecDepth 100000 in
theorem e141_15 {L : Lo} {h : Hp} {a2 : Int32} {a1 : Nat} {a0 : Nat} (hO : isO h a1 9 = true) : Run 141 15 L [.int a2, .ref a1, .ref a0] h = (Run 131 0 [some (.ref a1), some (.int a2), none] [] h).bind fun o => aft 141 15 18 L [.ref a0] o := Rcv (c := 131) (As := [.int a2]) (S' := [.ref a0]) (pc' := 18) 9 rfl hO
set_option maxRecDepth 100000 in
theorem e141_18 {L : Lo} {S : List Value} {h : Hp} : Run 141 18 L S h = Run 141 19 L (.int (-1) :: S) h := Rg rfl
set_option maxRecDepth 100000 in
theorem e141_19 {L : Lo} {S : List Value} {h : Hp} {x z : Int32} : Run 141 19 L (.int z :: .int x :: S) h = if x = z then Run 141 26 L S h else Run 141 22 L S h := Rbr (c := cnd .eq x z = true) (off := 7) rfl rfl cnd_eq
set_option maxRecDepth 100000 in
theorem e141_22 {L : Lo} {S : List Value} {h : Hp} : Run 141 22 L S h = Run 141 23 L (.int 2 :: S) h := Rg rfl
set_option maxRecDepth 100000 in
theorem e141_23 {L : Lo} {S : List Value} {h : Hp} : Run 141 23 L S h = Run 141 27 L S h := Rg rfl
set_option maxRecDepth 100000 in
theorem e141_26 {L : Lo} {S : List Value} {h : Hp} : Run 141 26 L S h = Run 141 27 L (.int 0 :: S) h := Rg rfl
set_option maxRecDepth 100000 in
theorem e141_27 {L : Lo} {S : List Value} {h : Hp} {b : Nat} {v : Value} : Run 141 27 L (v :: .ref b :: S) h = (pf h 9 5 b v).bind fun h1 => Run 141 30 L S h1 := Rb rfl fun _ => rfl
set_option maxRecDepth 100000 in
theorem e141_30 {L : Lo} {S : List Value} {h : Hp} {v : Nat} : Run 141 30 (some (.ref v) :: L) S h = Run 141 31 (some (.ref v) :: L) (.ref v :: S) h := Rg rfl
set_option maxRecDepth 100000 in
theorem e141_31 {L : Lo} {S : List Value} {h : Hp} {b : Nat} : Run 141 31 L (.ref b :: S) h = (gf h 9 5 b).bind fun v => Run 141 34 L (v :: S) h := Rb rfl fun _ => rfl
set_option maxRecDepth 100000 in
theorem e141_34 {L : Lo} {S : List Value} {h : Hp} {x : Int32} : Run 141 34 L (.int x :: S) h = if x = 0 then Run 141 39 L S h else Run 141 37 L S h := Rbr (c := cnd .eq x 0 = true) (off := 5) rfl rfl cnd_eq
set_option maxRecDepth 100000 in
theorem e141_37 {L : Lo} {S : List Value} {h : Hp} : Run 141 37 L S h = Run 141 38 L (.int 0 :: S) h := Rg rfl
set_option maxRecDepth 100000 in
theorem e141_38 {L : Lo} {h : Hp} {x : Int32} : Run 141 38 L [.int x] h = some (.inl (some (.int x)), h) := Rd (if_pos (c := narrow .int (.int x) = .int x) rfl)
set_option maxRecDepth 100000 in
theorem e141_39 {L : Lo} {S : List Value} {h : Hp} {v : Nat} : Run 141 39 (some (.ref v) :: L) S h = Run 141 40 (some (.ref v) :: L) (.ref v :: S) h := Rg rfl
set_option maxRecDepth 100000 in
theorem e141_40 {L : Lo} {h : Hp} {a0 : Nat} (hO : isO h a0 9 = true) : Run 141 40 L [.ref a0] h = (Run 121 0 [some (.ref a0), none] [] h).bind fun o => aft 141 40 43 L [] o := Rcv (c := 121) (As := []) (S' := []) (pc' := 43) 9 rfl hO
set_option maxRecDepth 100000 in
theorem e141_43 {L : Lo} {S : List Value} {h : Hp} {v : Nat} : Run 141 43 (some (.ref v) :: L) S h = Run 141 44 (some (.ref v) :: L) (.ref v :: S) h := Rg rfl
set_option maxRecDepth 100000 in
theorem e141_44 {L : Lo} {S : List Value} {h : Hp} {b : Nat} : Run 141 44 L (.ref b :: S) h = (gf h 9 0 b).bind fun v => Run 141 47 L (v :: S) h := Rb rfl fun _ => rfl
set_option maxRecDepth 100000 in
theorem e141_47 {L : Lo} {S : List Value} {h : Hp} : Run 141 47 L S h = Run 141 49 L (.int 126 :: S) h := Rg rfl
set_option maxRecDepth 100000 in
theorem e141_49 {L : Lo} {S : List Value} {h : Hp} {x0 : Option Value} {v : Int32} : Run 141 49 (x0 :: some (.int v) :: L) S h = Run 141 50 (x0 :: some (.int v) :: L) (.int v :: S) h := Rg rfl
set_option maxRecDepth 100000 in
theorem e141_50 {L : Lo} {S : List Value} {h : Hp} {x z : Int32} : Run 141 50 L (.int z :: .int x :: S) h = Run 141 51 L (.int (x + z) :: S) h := Rg rfl
set_option maxRecDepth 100000 in
theorem e141_51 {L : Lo} {S : List Value} {h : Hp} {i : Int32} {b : Nat} : Run 141 51 L (.int i :: .ref b :: S) h = (gaI h b i).bind fun v => Run 141 52 L (.int v :: S) h := Rb rfl fun _ => rfl
set_option maxRecDepth 100000 in
theorem e141_52 {L : Lo} {S : List Value} {h : Hp} {x0 x1 x2 : Option Value} {y : Option Value} {v : Int32} : Run 141 52 (x0 :: x1 :: x2 :: y :: L) (.int v :: S) h = Run 141 53 (x0 :: x1 :: ck x2 :: some (.int v) :: L) S h := Rg rfl
set_option maxRecDepth 100000 in
theorem e141_53 {L : Lo} {S : List Value} {h : Hp} {v : Nat} : Run 141 53 (some (.ref v) :: L) S h = Run 141 54 (some (.ref v) :: L) (.ref v :: S) h := Rg rfl
set_option maxRecDepth 100000 in
theorem e141_54 {L : Lo} {S : List Value} {h : Hp} {b : Nat} : Run 141 54 L (.ref b :: S) h = (gf h 9 0 b).bind fun v => Run 141 57 L (v :: S) h := Rb rfl fun _ => rfl
set_option maxRecDepth 100000 in
theorem e141_57 {L : Lo} {S : List Value} {h : Hp} : Run 141 57 L S h = Run 141 59 L (.int 126 :: S) h := Rg rfl
set_option maxRecDepth 100000 in
theorem e141_59 {L : Lo} {S : List Value} {h : Hp} {x0 : Option Value} {v : Int32} : Run 141 59 (x0 :: some (.int v) :: L) S h = Run 141 60 (x0 :: some (.int v) :: L) (.int v :: S) h := Rg rfl
set_option maxRecDepth 100000 in
theorem e141_60 {L : Lo} {S : List Value} {h : Hp} {x z : Int32} : Run 141 60 L (.int z :: .int x :: S) h = Run 141 61 L (.int (x + z) :: S) h := Rg rfl
set_option maxRecDepth 100000 in
theorem e141_61 {L : Lo} {S : List Value} {h : Hp} {x0 x1 : Option Value} {v : Int32} : Run 141 61 (x0 :: x1 :: some (.int v) :: L) S h = Run 141 62 (x0 :: x1 :: some (.int v) :: L) (.int v :: S) h := Rg rfl
set_option maxRecDepth 100000 in
theorem e141_62 {L : Lo} {S : List Value} {h : Hp} {x : Int32} : Run 141 62 L (.int x :: S) h = if x = 0 then Run 141 69 L S h else Run 141 65 L S h := Rbr (c := cnd .eq x 0 = true) (off := 7) rfl rfl cnd_eq
set_option maxRecDepth 100000 in
theorem e141_65 {L : Lo} {S : List Value} {h : Hp} : Run 141 65 L S h = Run 141 66 L (.int 1 :: S) h := Rg rfl
set_option maxRecDepth 100000 in
theorem e141_66 {L : Lo} {S : List Value} {h : Hp} : Run 141 66 L S h = Run 141 70 L S h := Rg rfl
set_option maxRecDepth 100000 in
theorem e141_69 {L : Lo} {S : List Value} {h : Hp} : Run 141 69 L S h = Run 141 70 L (.int 0 :: S) h := Rg rfl
set_option maxRecDepth 100000 in
theorem e141_70 {L : Lo} {S : List Value} {h : Hp} {v : Int32} {i : Int32} {b : Nat} : Run 141 70 L (.int v :: .int i :: .ref b :: S) h = (paI h b i v).bind fun h1 => Run 141 71 L S h1 := Rb rfl fun _ => rfl
set_option maxRecDepth 100000 in
theorem e141_71 {L : Lo} {S : List Value} {h : Hp} {x0 x1 x2 : Option Value} {v : Int32} : Run 141 71 (x0 :: x1 :: x2 :: some (.int v) :: L) S h = Run 141 72 (x0 :: x1 :: x2 :: some (.int v) :: L) (.int v :: S) h := Rg rfl
set_option maxRecDepth 100000 in
theorem e141_72 {L : Lo} {h : Hp} {x : Int32} : Run 141 72 L [.int x] h = some (.inl (some (.int x)), h) := Rd (if_pos (c := narrow .int (.int x) = .int x) rfl)
set_option maxRecDepth 100000 in
theorem e142_0 {L : Lo} {S : List Value} {h : Hp} {v : Nat} : Run 142 0 (some (.ref v) :: L) S h = Run 142 1 (some (.ref v) :: L) (.ref v :: S) h := Rg rfl
set_option maxRecDepth 100000 in
theorem e142_1 {L : Lo} {S : List Value} {h : Hp} {x0 : Option Value} {v : Int32} : Run 142 1 (x0 :: some (.int v) :: L) S h = Run 142 2 (x0 :: some (.int v) :: L) (.int v :: S) h := Rg rfl
set_option maxRecDepth 100000 in
theorem e142_2 {L : Lo} {S : List Value} {h : Hp} : Run 142 2 L S h = Run 142 3 L (.int 0 :: S) h := Rg rfl
set_option maxRecDepth 100000 in
theorem e142_3 {L : Lo} {S : List Value} {h : Hp} : Run 142 3 L S h = Run 142 4 L (.int 5 :: S) h := Rg rfl
set_option maxRecDepth 100000 in
theorem e142_4 {L : Lo} {h : Hp} {a3 : Int32} {a2 : Int32} {a1 : Int32} {a0 : Nat} : Run 142 4 L [.int a3, .int a2, .int a1, .ref a0] h = (Run 118 0 [some (.int a1), some (.int a2), some (.int a3)] [] h).bind fun o => aft 142 4 7 L [.ref a0] o := Rc (c := 118) (As := [.int a1, .int a2, .int a3]) (S' := [.ref a0]) (pc' := 7) rfl
set_option maxRecDepth 100000 in
theorem e142_7 {L : Lo} {S : List Value} {h : Hp} {x : Int32} : Run 142 7 L (.int x :: S) h = if x = 0 then Run 142 23 L S h else Run 142 10 L S h := Rbr (c := cnd .eq x 0 = true) (off := 16) rfl rfl cnd_eq
set_option maxRecDepth 100000 in
theorem e142_10 {L : Lo} {S : List Value} {h : Hp} {x0 x1 : Option Value} {v : Int32} : Run 142 10 (x0 :: x1 :: some (.int v) :: L) S h = Run 142 11 (x0 :: x1 :: some (.int v) :: L) (.int v :: S) h := Rg rfl
set_option maxRecDepth 100000 in
theorem e142_11 {L : Lo} {S : List Value} {h : Hp} : Run 142 11 L S h = Run 142 12 L (.int 0 :: S) h := Rg rfl
set_option maxRecDepth 100000 in
theorem e142_12 {L : Lo} {S : List Value} {h : Hp} : Run 142 12 L S h = Run 142 13 L (.int 3 :: S) h := Rg rfl
set_option maxRecDepth 100000 in
theorem e142_13 {L : Lo} {h : Hp} {a3 : Int32} {a2 : Int32} {a1 : Int32} {a0 : Nat} : Run 142 13 L [.int a3, .int a2, .int a1, .ref a0] h = (Run 118 0 [some (.int a1), some (.int a2), some (.int a3)] [] h).bind fun o => aft 142 13 16 L [.ref a0] o := Rc (c := 118) (As := [.int a1, .int a2, .int a3]) (S' := [.ref a0]) (pc' := 16) rfl
set_option maxRecDepth 100000 in
theorem e142_16 {L : Lo} {S : List Value} {h : Hp} {x : Int32} : Run 142 16 L (.int x :: S) h = if x = 0 then Run 142 23 L S h else Run 142 19 L S h := Rbr (c := cnd .eq x 0 = true) (off := 7) rfl rfl cnd_eq
set_option maxRecDepth 100000 in
theorem e142_19 {L : Lo} {S : List Value} {h : Hp} : Run 142 19 L S h = Run 142 20 L (.int 0 :: S) h := Rg rfl
set_option maxRecDepth 100000 in
theorem e142_20 {L : Lo} {S : List Value} {h : Hp} : Run 142 20 L S h = Run 142 24 L S h := Rg rfl
set_option maxRecDepth 100000 in
theorem e142_23 {L : Lo} {S : List Value} {h : Hp} : Run 142 23 L S h = Run 142 24 L (.int 1 :: S) h := Rg rfl
set_option maxRecDepth 100000 in
theorem e142_24 {L : Lo} {S : List Value} {h : Hp} {b : Nat} {v : Value} : Run 142 24 L (v :: .ref b :: S) h = (pf h 9 5 b v).bind fun h1 => Run 142 27 L S h1 := Rb rfl fun _ => rfl
set_option maxRecDepth 100000 in
theorem e142_27 {L : Lo} {S : List Value} {h : Hp} {v : Nat} : Run 142 27 (some (.ref v) :: L) S h = Run 142 28 (some (.ref v) :: L) (.ref v :: S) h := Rg rfl
set_option maxRecDepth 100000 in
theorem e142_28 {L : Lo} {S : List Value} {h : Hp} {b : Nat} : Run 142 28 L (.ref b :: S) h = (gf h 9 5 b).bind fun v => Run 142 31 L (v :: S) h := Rb rfl fun _ => rfl
set_option maxRecDepth 100000 in
theorem e142_31 {L : Lo} {S : List Value} {h : Hp} {x : Int32} : Run 142 31 L (.int x :: S) h = if x = 0 then Run 142 36 L S h else Run 142 34 L S h := Rbr (c := cnd .eq x 0 = true) (off := 5) rfl rfl cnd_eq
set_option maxRecDepth 100000 in
theorem e142_34 {L : Lo} {S : List Value} {h : Hp} : Run 142 34 L S h = Run 142 35 L (.int 0 :: S) h := Rg rfl
set_option maxRecDepth 100000 in
theorem e142_35 {L : Lo} {h : Hp} {x : Int32} : Run 142 35 L [.int x] h = some (.inl (some (.int x)), h) := Rd (if_pos (c := narrow .int (.int x) = .int x) rfl)
set_option maxRecDepth 100000 in
theorem e142_36 {L : Lo} {S : List Value} {h : Hp} {v : Nat} : Run 142 36 (some (.ref v) :: L) S h = Run 142 37 (some (.ref v) :: L) (.ref v :: S) h := Rg rfl
set_option maxRecDepth 100000 in
theorem e142_37 {L : Lo} {h : Hp} {a0 : Nat} (hO : isO h a0 9 = true) : Run 142 37 L [.ref a0] h = (Run 121 0 [some (.ref a0), none] [] h).bind fun o => aft 142 37 40 L [] o := Rcv (c := 121) (As := []) (S' := []) (pc' := 40) 9 rfl hO
set_option maxRecDepth 100000 in
theorem e142_40 {L : Lo} {S : List Value} {h : Hp} {v : Nat} : Run 142 40 (some (.ref v) :: L) S h = Run 142 41 (some (.ref v) :: L) (.ref v :: S) h := Rg rfl
set_option maxRecDepth 100000 in
theorem e142_41 {L : Lo} {S : List Value} {h : Hp} {b : Nat} : Run 142 41 L (.ref b :: S) h = (gf h 9 0 b).bind fun v => Run 142 44 L (v :: S) h := Rb rfl fun _ => rfl
set_option maxRecDepth 100000 in
theorem e142_44 {L : Lo} {S : List Value} {h : Hp} : Run 142 44 L S h = Run 142 45 L (.int 2 :: S) h := Rg rfl
set_option maxRecDepth 100000 in
theorem e142_45 {L : Lo} {S : List Value} {h : Hp} {i : Int32} {b : Nat} : Run 142 45 L (.int i :: .ref b :: S) h = (gaI h b i).bind fun v => Run 142 46 L (.int v :: S) h := Rb rfl fun _ => rfl
set_option maxRecDepth 100000 in
theorem e142_46 {L : Lo} {S : List Value} {h : Hp} {x0 x1 x2 : Option Value} {y : Option Value} {v : Int32} : Run 142 46 (x0 :: x1 :: x2 :: y :: L) (.int v :: S) h = Run 142 47 (x0 :: x1 :: ck x2 :: some (.int v) :: L) S h := Rg rfl
set_option maxRecDepth 100000 in
theorem e142_47 {L : Lo} {S : List Value} {h : Hp} {v : Nat} : Run 142 47 (some (.ref v) :: L) S h = Run 142 48 (some (.ref v) :: L) (.ref v :: S) h := Rg rfl
set_option maxRecDepth 100000 in
theorem e142_48 {L : Lo} {S : List Value} {h : Hp} {b : Nat} : Run 142 48 L (.ref b :: S) h = (gf h 9 0 b).bind fun v => Run 142 51 L (v :: S) h := Rb rfl fun _ => rfl
set_option maxRecDepth 100000 in
theorem e142_51 {L : Lo} {S : List Value} {h : Hp} : Run 142 51 L S h = Run 142 52 L (.int 2 :: S) h := Rg rfl
set_option maxRecDepth 100000 in
theorem e142_52 {L : Lo} {S : List Value} {h : Hp} {x0 : Option Value} {v : Int32} : Run 142 52 (x0 :: some (.int v) :: L) S h = Run 142 53 (x0 :: some (.int v) :: L) (.int v :: S) h := Rg rfl
set_option maxRecDepth 100000 in
theorem e142_53 {L : Lo} {S : List Value} {h : Hp} {v : Int32} {i : Int32} {b : Nat} : Run 142 53 L (.int v :: .int i :: .ref b :: S) h = (paI h b i v).bind fun h1 => Run 142 54 L S h1 := Rb rfl fun _ => rfl
set_option maxRecDepth 100000 in
theorem e142_54 {L : Lo} {S : List Value} {h : Hp} {v : Nat} : Run 142 54 (some (.ref v) :: L) S h = Run 142 55 (some (.ref v) :: L) (.ref v :: S) h := Rg rfl
set_option maxRecDepth 100000 in
theorem e142_55 {L : Lo} {S : List Value} {h : Hp} {b : Nat} : Run 142 55 L (.ref b :: S) h = (gf h 9 0 b).bind fun v => Run 142 58 L (v :: S) h := Rb rfl fun _ => rfl
set_option maxRecDepth 100000 in
theorem e142_58 {L : Lo} {S : List Value} {h : Hp} : Run 142 58 L S h = Run 142 59 L (.int 3 :: S) h := Rg rfl
set_option maxRecDepth 100000 in
theorem e142_59 {L : Lo} {S : List Value} {h : Hp} {x0 x1 : Option Value} {v : Int32} : Run 142 59 (x0 :: x1 :: some (.int v) :: L) S h = Run 142 60 (x0 :: x1 :: some (.int v) :: L) (.int v :: S) h := Rg rfl
set_option maxRecDepth 100000 in
theorem e142_60 {L : Lo} {S : List Value} {h : Hp} {v : Int32} {i : Int32} {b : Nat} : Run 142 60 L (.int v :: .int i :: .ref b :: S) h = (paI h b i v).bind fun h1 => Run 142 61 L S h1 := Rb rfl fun _ => rfl
set_option maxRecDepth 100000 in
theorem e142_61 {L : Lo} {S : List Value} {h : Hp} {x0 x1 x2 : Option Value} {v : Int32} : Run 142 61 (x0 :: x1 :: x2 :: some (.int v) :: L) S h = Run 142 62 (x0 :: x1 :: x2 :: some (.int v) :: L) (.int v :: S) h := Rg rfl
set_option maxRecDepth 100000 in
theorem e142_62 {L : Lo} {h : Hp} {x : Int32} : Run 142 62 L [.int x] h = some (.inl (some (.int x)), h) := Rd (if_pos (c := narrow .int (.int x) = .int x) rfl)
set_option maxRecDepth 100000 in
theorem e143_0 {L : Lo} {S : List Value} {h : Hp} {v : Int32} : Run 143 0 (some (.int v) :: L) S h = Run 143 1 (some (.int v) :: L) (.int v :: S) h := Rg rfl
set_option maxRecDepth 100000 in
theorem e143_1 {L : Lo} {S : List Value} {h : Hp} {x0 : Option Value} {v : Int32} : Run 143 1 (x0 :: some (.int v) :: L) S h = Run 143 2 (x0 :: some (.int v) :: L) (.int v :: S) h := Rg rfl
set_option maxRecDepth 100000 in
theorem e143_2 {L : Lo} {S : List Value} {h : Hp} {x z : Int32} : Run 143 2 L (.int z :: .int x :: S) h = Run 143 3 L (.int (x - z) :: S) h := Rg rfl
set_option maxRecDepth 100000 in
theorem e143_3 {L : Lo} {S : List Value} {h : Hp} : Run 143 3 L S h = Run 143 5 L (.int 6 :: S) h := Rg rfl
set_option maxRecDepth 100000 in
theorem e143_5 {L : Lo} {S : List Value} {h : Hp} {x z : Int32} : Run 143 5 L (.int z :: .int x :: S) h = Run 143 6 L (.int (x + z) :: S) h := Rg rfl
set_option maxRecDepth 100000 in
theorem e143_6 {L : Lo} {S : List Value} {h : Hp} : Run 143 6 L S h = Run 143 8 L (.int 6 :: S) h := Rg rfl
set_option maxRecDepth 100000 in
theorem e143_8 {L : Lo} {S : List Value} {h : Hp} {x z : Int32} (hz : ¬ z = 0) : Run 143 8 L (.int z :: .int x :: S) h = Run 143 9 L (.int (x - x / z * z) :: S) h := Rg (if_neg hz)
set_option maxRecDepth 100000 in
theorem e143_9 {L : Lo} {S : List Value} {h : Hp} {x0 x1 : Option Value} {y : Option Value} {v : Int32} : Run 143 9 (x0 :: x1 :: y :: L) (.int v :: S) h = Run 143 10 (x0 :: ck x1 :: some (.int v) :: L) S h := Rg rfl
set_option maxRecDepth 100000 in
theorem e143_10 {L : Lo} {S : List Value} {h : Hp} {x0 x1 : Option Value} {v : Int32} : Run 143 10 (x0 :: x1 :: some (.int v) :: L) S h = Run 143 11 (x0 :: x1 :: some (.int v) :: L) (.int v :: S) h := Rg rfl
set_option maxRecDepth 100000 in
theorem e143_11 {L : Lo} {S : List Value} {h : Hp} : Run 143 11 L S h = Run 143 12 L (.int 3 :: S) h := Rg rfl
set_option maxRecDepth 100000 in
theorem e143_12 {L : Lo} {S : List Value} {h : Hp} {x z : Int32} : Run 143 12 L (.int z :: .int x :: S) h = if x ≤ z then Run 143 22 L S h else Run 143 15 L S h := Rbr (c := cnd .le x z = true) (off := 10) rfl rfl cnd_le
set_option maxRecDepth 100000 in
theorem e143_15 {L : Lo} {S : List Value} {h : Hp} : Run 143 15 L S h = Run 143 17 L (.int 6 :: S) h := Rg rfl
set_option maxRecDepth 100000 in
theorem e143_17 {L : Lo} {S : List Value} {h : Hp} {x0 x1 : Option Value} {v : Int32} : Run 143 17 (x0 :: x1 :: some (.int v) :: L) S h = Run 143 18 (x0 :: x1 :: some (.int v) :: L) (.int v :: S) h := Rg rfl
set_option maxRecDepth 100000 in
theorem e143_18 {L : Lo} {S : List Value} {h : Hp} {x z : Int32} : Run 143 18 L (.int z :: .int x :: S) h = Run 143 19 L (.int (x - z) :: S) h := Rg rfl
set_option maxRecDepth 100000 in
theorem e143_19 {L : Lo} {S : List Value} {h : Hp} : Run 143 19 L S h = Run 143 23 L S h := Rg rfl
set_option maxRecDepth 100000 in
theorem e143_22 {L : Lo} {S : List Value} {h : Hp} {x0 x1 : Option Value} {v : Int32} : Run 143 22 (x0 :: x1 :: some (.int v) :: L) S h = Run 143 23 (x0 :: x1 :: some (.int v) :: L) (.int v :: S) h := Rg rfl
set_option maxRecDepth 100000 in
theorem e143_23 {L : Lo} {h : Hp} {x : Int32} : Run 143 23 L [.int x] h = some (.inl (some (.int x)), h) := Rd (if_pos (c := narrow .int (.int x) = .int x) rfl)
set_option maxRecDepth 100000 in
theorem e144_0 {L : Lo} {S : List Value} {h : Hp} {v : Nat} : Run 144 0 (some (.ref v) :: L) S h = Run 144 1 (some (.ref v) :: L) (.ref v :: S) h := Rg rfl
set_option maxRecDepth 100000 in
theorem e144_1 {L : Lo} {S : List Value} {h : Hp} {x0 : Option Value} {v : Int32} : Run 144 1 (x0 :: some (.int v) :: L) S h = Run 144 2 (x0 :: some (.int v) :: L) (.int v :: S) h := Rg rfl
set_option maxRecDepth 100000 in
theorem e144_2 {L : Lo} {S : List Value} {h : Hp} : Run 144 2 L S h = Run 144 3 L (.int 2 :: S) h := Rg rfl
set_option maxRecDepth 100000 in
theorem e144_3 {L : Lo} {h : Hp} {a2 : Int32} {a1 : Int32} {a0 : Nat} (hO : isO h a0 9 = true) : Run 144 3 L [.int a2, .int a1, .ref a0] h = (Run 125 0 [some (.ref a0), some (.int a1), some (.int a2)] [] h).bind fun o => aft 144 3 6 L [] o := Rcv (c := 125) (As := [.int a1, .int a2]) (S' := []) (pc' := 6) 9 rfl hO
set_option maxRecDepth 100000 in
theorem e144_6 {L : Lo} {S : List Value} {h : Hp} {x0 x1 : Option Value} {v : Int32} : Run 144 6 (x0 :: x1 :: some (.int v) :: L) S h = Run 144 7 (x0 :: x1 :: some (.int v) :: L) (.int v :: S) h := Rg rfl
set_option maxRecDepth 100000 in
theorem e144_7 {L : Lo} {h : Hp} {a1 : Int32} {a0 : Int32} : Run 144 7 L [.int a1, .int a0] h = (Run 143 0 [some (.int a0), some (.int a1), none] [] h).bind fun o => aft 144 7 10 L [] o := Rc (c := 143) (As := [.int a0, .int a1]) (S' := []) (pc' := 10) rfl
set_option maxRecDepth 100000 in
theorem e144_10 {L : Lo} {S : List Value} {h : Hp} {x0 x1 x2 : Option Value} {y : Option Value} {v : Int32} : Run 144 10 (x0 :: x1 :: x2 :: y :: L) (.int v :: S) h = Run 144 11 (x0 :: x1 :: ck x2 :: some (.int v) :: L) S h := Rg rfl
set_option maxRecDepth 100000 in
theorem e144_11 {L : Lo} {S : List Value} {h : Hp} {x0 x1 x2 : Option Value} {v : Int32} : Run 144 11 (x0 :: x1 :: x2 :: some (.int v) :: L) S h = Run 144 12 (x0 :: x1 :: x2 :: some (.int v) :: L) (.int v :: S) h := Rg rfl
set_option maxRecDepth 100000 in
theorem e144_12 {L : Lo} {S : List Value} {h : Hp} {x : Int32} : Run 144 12 L (.int x :: S) h = if x = 0 then Run 144 15 L S h else Run 144 19 L S h := RbrN (c := cnd .ne x 0 = true) (off := 7) rfl rfl cnd_ne
set_option maxRecDepth 100000 in
theorem e144_15 {L : Lo} {S : List Value} {h : Hp} : Run 144 15 L S h = Run 144 16 L (.int 2 :: S) h := Rg rfl
set_option maxRecDepth 100000 in
theorem e144_16 {L : Lo} {S : List Value} {h : Hp} : Run 144 16 L S h = Run 144 38 L S h := Rg rfl
set_option maxRecDepth 100000 in
theorem e144_19 {L : Lo} {S : List Value} {h : Hp} {x0 x1 x2 : Option Value} {v : Int32} : Run 144 19 (x0 :: x1 :: x2 :: some (.int v) :: L) S h = Run 144 20 (x0 :: x1 :: x2 :: some (.int v) :: L) (.int v :: S) h := Rg rfl
set_option maxRecDepth 100000 in
theorem e144_20 {L : Lo} {S : List Value} {h : Hp} : Run 144 20 L S h = Run 144 21 L (.int 1 :: S) h := Rg rfl
set_option maxRecDepth 100000 in
theorem e144_21 {L : Lo} {S : List Value} {h : Hp} {x z : Int32} : Run 144 21 L (.int z :: .int x :: S) h = if x = z then Run 144 24 L S h else Run 144 28 L S h := RbrN (c := cnd .ne x z = true) (off := 7) rfl rfl cnd_ne
set_option maxRecDepth 100000 in
theorem e144_24 {L : Lo} {S : List Value} {h : Hp} : Run 144 24 L S h = Run 144 25 L (.int 3 :: S) h := Rg rfl
set_option maxRecDepth 100000 in
theorem e144_25 {L : Lo} {S : List Value} {h : Hp} : Run 144 25 L S h = Run 144 38 L S h := Rg rfl
set_option maxRecDepth 100000 in
theorem e144_28 {L : Lo} {S : List Value} {h : Hp} {x0 x1 x2 : Option Value} {v : Int32} : Run 144 28 (x0 :: x1 :: x2 :: some (.int v) :: L) S h = Run 144 29 (x0 :: x1 :: x2 :: some (.int v) :: L) (.int v :: S) h := Rg rfl
set_option maxRecDepth 100000 in
theorem e144_29 {L : Lo} {S : List Value} {h : Hp} : Run 144 29 L S h = Run 144 30 L (.int 2 :: S) h := Rg rfl
set_option maxRecDepth 100000 in
theorem e144_30 {L : Lo} {S : List Value} {h : Hp} {x z : Int32} : Run 144 30 L (.int z :: .int x :: S) h = if x = z then Run 144 33 L S h else Run 144 37 L S h := RbrN (c := cnd .ne x z = true) (off := 7) rfl rfl cnd_ne
set_option maxRecDepth 100000 in
theorem e144_33 {L : Lo} {S : List Value} {h : Hp} : Run 144 33 L S h = Run 144 34 L (.int 1 :: S) h := Rg rfl
set_option maxRecDepth 100000 in
theorem e144_34 {L : Lo} {S : List Value} {h : Hp} : Run 144 34 L S h = Run 144 38 L S h := Rg rfl
set_option maxRecDepth 100000 in
theorem e144_37 {L : Lo} {S : List Value} {h : Hp} : Run 144 37 L S h = Run 144 38 L (.int 0 :: S) h := Rg rfl
set_option maxRecDepth 100000 in
theorem e144_38 {L : Lo} {S : List Value} {h : Hp} {x0 x1 x2 x3 : Option Value} {y : Option Value} {v : Int32} : Run 144 38 (x0 :: x1 :: x2 :: x3 :: y :: L) (.int v :: S) h = Run 144 40 (x0 :: x1 :: x2 :: ck x3 :: some (.int v) :: L) S h := Rg rfl
set_option maxRecDepth 100000 in
theorem e144_40 {L : Lo} {S : List Value} {h : Hp} {x0 x1 x2 x3 : Option Value} {v : Int32} : Run 144 40 (x0 :: x1 :: x2 :: x3 :: some (.int v) :: L) S h = Run 144 42 (x0 :: x1 :: x2 :: x3 :: some (.int v) :: L) (.int v :: S) h := Rg rfl
set_option maxRecDepth 100000 in
theorem e144_42 {L : Lo} {S : List Value} {h : Hp} {v : Nat} : Run 144 42 (some (.ref v) :: L) S h = Run 144 43 (some (.ref v) :: L) (.ref v :: S) h := Rg rfl
set_option maxRecDepth 100000 in
theorem e144_43 {L : Lo} {S : List Value} {h : Hp} {b : Nat} : Run 144 43 L (.ref b :: S) h = (gf h 9 0 b).bind fun v => Run 144 46 L (v :: S) h := Rb rfl fun _ => rfl
set_option maxRecDepth 100000 in
theorem e144_46 {L : Lo} {S : List Value} {h : Hp} : Run 144 46 L S h = Run 144 47 L (.int 3 :: S) h := Rg rfl
set_option maxRecDepth 100000 in
theorem e144_47 {L : Lo} {S : List Value} {h : Hp} {i : Int32} {b : Nat} : Run 144 47 L (.int i :: .ref b :: S) h = (gaI h b i).bind fun v => Run 144 48 L (.int v :: S) h := Rb rfl fun _ => rfl
set_option maxRecDepth 100000 in
theorem e144_48 {L : Lo} {S : List Value} {h : Hp} {x z : Int32} : Run 144 48 L (.int z :: .int x :: S) h = Run 144 49 L (.int (x * z) :: S) h := Rg rfl
set_option maxRecDepth 100000 in
theorem e144_49 {L : Lo} {S : List Value} {h : Hp} {v : Nat} : Run 144 49 (some (.ref v) :: L) S h = Run 144 50 (some (.ref v) :: L) (.ref v :: S) h := Rg rfl
set_option maxRecDepth 100000 in
theorem e144_50 {L : Lo} {S : List Value} {h : Hp} {x0 : Option Value} {v : Int32} : Run 144 50 (x0 :: some (.int v) :: L) S h = Run 144 51 (x0 :: some (.int v) :: L) (.int v :: S) h := Rg rfl
set_option maxRecDepth 100000 in
theorem e144_51 {L : Lo} {S : List Value} {h : Hp} : Run 144 51 L S h = Run 144 52 L (.int 4 :: S) h := Rg rfl
set_option maxRecDepth 100000 in
theorem e144_52 {L : Lo} {h : Hp} {a3 : Int32} {a2 : Int32} {a1 : Nat} {a0 : Int32} (hO : isO h a1 9 = true) : Run 144 52 L [.int a3, .int a2, .ref a1, .int a0] h = (Run 125 0 [some (.ref a1), some (.int a2), some (.int a3)] [] h).bind fun o => aft 144 52 55 L [.int a0] o := Rcv (c := 125) (As := [.int a2, .int a3]) (S' := [.int a0]) (pc' := 55) 9 rfl hO
set_option maxRecDepth 100000 in
theorem e144_55 {L : Lo} {S : List Value} {h : Hp} {x z : Int32} : Run 144 55 L (.int z :: .int x :: S) h = Run 144 56 L (.int (x * z) :: S) h := Rg rfl
set_option maxRecDepth 100000 in
theorem e144_56 {L : Lo} {S : List Value} {h : Hp} : Run 144 56 L S h = Run 144 58 L (.int 19 :: S) h := Rg rfl
set_option maxRecDepth 100000 in
theorem e144_58 {L : Lo} {S : List Value} {h : Hp} {x z : Int32} : Run 144 58 L (.int z :: .int x :: S) h = Run 144 59 L (.int (x + z) :: S) h := Rg rfl
set_option maxRecDepth 100000 in
theorem e144_59 {L : Lo} {S : List Value} {h : Hp} : Run 144 59 L S h = Run 144 61 L (.int 20 :: S) h := Rg rfl
set_option maxRecDepth 100000 in
theorem e144_61 {L : Lo} {S : List Value} {h : Hp} {x z : Int32} (hz : ¬ z = 0) : Run 144 61 L (.int z :: .int x :: S) h = Run 144 62 L (.int (x / z) :: S) h := Rg (if_neg hz)
set_option maxRecDepth 100000 in
theorem e144_62 {L : Lo} {h : Hp} {x : Int32} : Run 144 62 L [.int x] h = some (.inl (some (.int x)), h) := Rd (if_pos (c := narrow .int (.int x) = .int x) rfl)
set_option maxRecDepth 100000 in
theorem e145_0 {L : Lo} {S : List Value} {h : Hp} {v : Nat} : Run 145 0 (some (.ref v) :: L) S h = Run 145 1 (some (.ref v) :: L) (.ref v :: S) h := Rg rfl
set_option maxRecDepth 100000 in
theorem e145_1 {L : Lo} {S : List Value} {h : Hp} {x0 : Option Value} {v : Int32} : Run 145 1 (x0 :: some (.int v) :: L) S h = Run 145 2 (x0 :: some (.int v) :: L) (.int v :: S) h := Rg rfl
set_option maxRecDepth 100000 in
theorem e145_2 {L : Lo} {S : List Value} {h : Hp} {v : Nat} : Run 145 2 (some (.ref v) :: L) S h = Run 145 3 (some (.ref v) :: L) (.ref v :: S) h := Rg rfl
set_option maxRecDepth 100000 in
theorem e145_3 {L : Lo} {S : List Value} {h : Hp} {b : Nat} : Run 145 3 L (.ref b :: S) h = (gf h 9 0 b).bind fun v => Run 145 6 L (v :: S) h := Rb rfl fun _ => rfl
set_option maxRecDepth 100000 in
theorem e145_6 {L : Lo} {S : List Value} {h : Hp} : Run 145 6 L S h = Run 145 7 L (.int 2 :: S) h := Rg rfl
set_option maxRecDepth 100000 in
theorem e145_7 {L : Lo} {S : List Value} {h : Hp} {i : Int32} {b : Nat} : Run 145 7 L (.int i :: .ref b :: S) h = (gaI h b i).bind fun v => Run 145 8 L (.int v :: S) h := Rb rfl fun _ => rfl
set_option maxRecDepth 100000 in
theorem e145_8 {L : Lo} {h : Hp} {a2 : Int32} {a1 : Int32} {a0 : Nat} (hO : isO h a0 9 = true) : Run 145 8 L [.int a2, .int a1, .ref a0] h = (Run 144 0 [some (.ref a0), some (.int a1), some (.int a2), none, none] [] h).bind fun o => aft 145 8 11 L [] o := Rcv (c := 144) (As := [.int a1, .int a2]) (S' := []) (pc' := 11) 9 rfl hO
set_option maxRecDepth 100000 in
theorem e145_11 {L : Lo} {h : Hp} {x : Int32} : Run 145 11 L [.int x] h = some (.inl (some (.int x)), h) := Rd (if_pos (c := narrow .int (.int x) = .int x) rfl)
set_option maxRecDepth 100000 in
theorem e146_0 {L : Lo} {S : List Value} {h : Hp} {v : Nat} : Run 146 0 (some (.ref v) :: L) S h = Run 146 1 (some (.ref v) :: L) (.ref v :: S) h := Rg rfl
set_option maxRecDepth 100000 in
theorem e146_1 {L : Lo} {S : List Value} {h : Hp} {x0 : Option Value} {v : Int32} : Run 146 1 (x0 :: some (.int v) :: L) S h = Run 146 2 (x0 :: some (.int v) :: L) (.int v :: S) h := Rg rfl
set_option maxRecDepth 100000 in
theorem e146_2 {L : Lo} {h : Hp} {a1 : Int32} {a0 : Nat} (hO : isO h a0 9 = true) : Run 146 2 L [.int a1, .ref a0] h = (Run 145 0 [some (.ref a0), some (.int a1)] [] h).bind fun o => aft 146 2 5 L [] o := Rcv (c := 145) (As := [.int a1]) (S' := []) (pc' := 5) 9 rfl hO
set_option maxRecDepth 100000 in
theorem e146_5 {L : Lo} {S : List Value} {h : Hp} {x0 x1 : Option Value} {y : Option Value} {v : Int32} : Run 146 5 (x0 :: x1 :: y :: L) (.int v :: S) h = Run 146 6 (x0 :: ck x1 :: some (.int v) :: L) S h := Rg rfl
set_option maxRecDepth 100000 in
theorem e146_6 {L : Lo} {S : List Value} {h : Hp} {v : Nat} : Run 146 6 (some (.ref v) :: L) S h = Run 146 7 (some (.ref v) :: L) (.ref v :: S) h := Rg rfl
set_option maxRecDepth 100000 in
theorem e146_7 {L : Lo} {S : List Value} {h : Hp} {x0 : Option Value} {v : Int32} : Run 146 7 (x0 :: some (.int v) :: L) S h = Run 146 8 (x0 :: some (.int v) :: L) (.int v :: S) h := Rg rfl
set_option maxRecDepth 100000 in
theorem e146_8 {L : Lo} {S : List Value} {h : Hp} : Run 146 8 L S h = Run 146 10 L (.int 8 :: S) h := Rg rfl
set_option maxRecDepth 100000 in
theorem e146_10 {L : Lo} {S : List Value} {h : Hp} {x0 x1 : Option Value} {v : Int32} : Run 146 10 (x0 :: x1 :: some (.int v) :: L) S h = Run 146 11 (x0 :: x1 :: some (.int v) :: L) (.int v :: S) h := Rg rfl
set_option maxRecDepth 100000 in
theorem e146_11 {L : Lo} {S : List Value} {h : Hp} {x : Int32} : Run 146 11 L (.int x :: S) h = if x = 0 then Run 146 14 L S h else Run 146 27 L S h := RbrN (c := cnd .ne x 0 = true) (off := 16) rfl rfl cnd_ne
set_option maxRecDepth 100000 in
theorem e146_14 {L : Lo} {S : List Value} {h : Hp} {v : Nat} : Run 146 14 (some (.ref v) :: L) S h = Run 146 15 (some (.ref v) :: L) (.ref v :: S) h := Rg rfl
set_option maxRecDepth 100000 in
theorem e146_15 {L : Lo} {S : List Value} {h : Hp} {x0 : Option Value} {v : Int32} : Run 146 15 (x0 :: some (.int v) :: L) S h = Run 146 16 (x0 :: some (.int v) :: L) (.int v :: S) h := Rg rfl
set_option maxRecDepth 100000 in
theorem e146_16 {L : Lo} {S : List Value} {h : Hp} : Run 146 16 L S h = Run 146 17 L (.int 4 :: S) h := Rg rfl
set_option maxRecDepth 100000 in
theorem e146_17 {L : Lo} {h : Hp} {a5 : Int32} {a4 : Int32} {a3 : Nat} {a2 : Int32} {a1 : Int32} {a0 : Nat} (hO : isO h a3 9 = true) : Run 146 17 L [.int a5, .int a4, .ref a3, .int a2, .int a1, .ref a0] h = (Run 125 0 [some (.ref a3), some (.int a4), some (.int a5)] [] h).bind fun o => aft 146 17 20 L [.int a2, .int a1, .ref a0] o := Rcv (c := 125) (As := [.int a4, .int a5]) (S' := [.int a2, .int a1, .ref a0]) (pc' := 20) 9 rfl hO
set_option maxRecDepth 100000 in
theorem e146_20 {L : Lo} {S : List Value} {h : Hp} {x : Int32} : Run 146 20 L (.int x :: S) h = if x ≤ 0 then Run 146 27 L S h else Run 146 23 L S h := Rbr (c := cnd .le x 0 = true) (off := 7) rfl rfl cnd_le
set_option maxRecDepth 100000 in
theorem e146_23 {L : Lo} {S : List Value} {h : Hp} : Run 146 23 L S h = Run 146 24 L (.int 1 :: S) h := Rg rfl
set_option maxRecDepth 100000 in
theorem e146_24 {L : Lo} {S : List Value} {h : Hp} : Run 146 24 L S h = Run 146 28 L S h := Rg rfl
set_option maxRecDepth 100000 in
theorem e146_27 {L : Lo} {S : List Value} {h : Hp} {x0 x1 : Option Value} {v : Int32} : Run 146 27 (x0 :: x1 :: some (.int v) :: L) S h = Run 146 28 (x0 :: x1 :: some (.int v) :: L) (.int v :: S) h := Rg rfl
set_option maxRecDepth 100000 in
theorem e146_28 {L : Lo} {h : Hp} {a3 : Int32} {a2 : Int32} {a1 : Int32} {a0 : Nat} (hO : isO h a0 9 = true) : Run 146 28 L [.int a3, .int a2, .int a1, .ref a0] h = (Run 126 0 [some (.ref a0), some (.int a1), some (.int a2), some (.int a3)] [] h).bind fun o => aft 146 28 31 L [] o := Rcv (c := 126) (As := [.int a1, .int a2, .int a3]) (S' := []) (pc' := 31) 9 rfl hO
set_option maxRecDepth 100000 in
theorem e146_31 {L : Lo} {S : List Value} {h : Hp} {v : Nat} : Run 146 31 (some (.ref v) :: L) S h = Run 146 32 (some (.ref v) :: L) (.ref v :: S) h := Rg rfl
set_option maxRecDepth 100000 in
theorem e146_32 {L : Lo} {S : List Value} {h : Hp} {x0 : Option Value} {v : Int32} : Run 146 32 (x0 :: some (.int v) :: L) S h = Run 146 33 (x0 :: some (.int v) :: L) (.int v :: S) h := Rg rfl
set_option maxRecDepth 100000 in
theorem e146_33 {L : Lo} {S : List Value} {h : Hp} : Run 146 33 L S h = Run 146 35 L (.int 13 :: S) h := Rg rfl
set_option maxRecDepth 100000 in
theorem e146_35 {L : Lo} {S : List Value} {h : Hp} : Run 146 35 L S h = Run 146 36 L (.int 0 :: S) h := Rg rfl
set_option maxRecDepth 100000 in
theorem e146_36 {L : Lo} {h : Hp} {a3 : Int32} {a2 : Int32} {a1 : Int32} {a0 : Nat} (hO : isO h a0 9 = true) : Run 146 36 L [.int a3, .int a2, .int a1, .ref a0] h = (Run 126 0 [some (.ref a0), some (.int a1), some (.int a2), some (.int a3)] [] h).bind fun o => aft 146 36 39 L [] o := Rcv (c := 126) (As := [.int a1, .int a2, .int a3]) (S' := []) (pc' := 39) 9 rfl hO
set_option maxRecDepth 100000 in
theorem e146_39 {L : Lo} {S : List Value} {h : Hp} {v : Nat} : Run 146 39 (some (.ref v) :: L) S h = Run 146 40 (some (.ref v) :: L) (.ref v :: S) h := Rg rfl
set_option maxRecDepth 100000 in
theorem e146_40 {L : Lo} {S : List Value} {h : Hp} {x0 : Option Value} {v : Int32} : Run 146 40 (x0 :: some (.int v) :: L) S h = Run 146 41 (x0 :: some (.int v) :: L) (.int v :: S) h := Rg rfl
set_option maxRecDepth 100000 in
theorem e146_41 {L : Lo} {S : List Value} {h : Hp} : Run 146 41 L S h = Run 146 43 L (.int 14 :: S) h := Rg rfl
set_option maxRecDepth 100000 in
theorem e146_43 {L : Lo} {S : List Value} {h : Hp} : Run 146 43 L S h = Run 146 44 L (.int 0 :: S) h := Rg rfl
set_option maxRecDepth 100000 in
theorem e146_44 {L : Lo} {h : Hp} {a3 : Int32} {a2 : Int32} {a1 : Int32} {a0 : Nat} (hO : isO h a0 9 = true) : Run 146 44 L [.int a3, .int a2, .int a1, .ref a0] h = (Run 126 0 [some (.ref a0), some (.int a1), some (.int a2), some (.int a3)] [] h).bind fun o => aft 146 44 47 L [] o := Rcv (c := 126) (As := [.int a1, .int a2, .int a3]) (S' := []) (pc' := 47) 9 rfl hO
set_option maxRecDepth 100000 in
theorem e146_47 {L : Lo} {h : Hp} : Run 146 47 L [] h = some (.inl none, h) := Rd rfl
set_option maxRecDepth 100000 in
theorem e147_0 {L : Lo} {S : List Value} {h : Hp} {x0 : Option Value} {v : Int32} : Run 147 0 (x0 :: some (.int v) :: L) S h = Run 147 1 (x0 :: some (.int v) :: L) (.int v :: S) h := Rg rfl
set_option maxRecDepth 100000 in
theorem e147_1 {L : Lo} {S : List Value} {h : Hp} : Run 147 1 L S h = Run 147 2 L (.int 0 :: S) h := Rg rfl
set_option maxRecDepth 100000 in
theorem e147_2 {L : Lo} {S : List Value} {h : Hp} : Run 147 2 L S h = Run 147 3 L (.int 1 :: S) h := Rg rfl
set_option maxRecDepth 100000 in
theorem e147_3 {L : Lo} {h : Hp} {a2 : Int32} {a1 : Int32} {a0 : Int32} : Run 147 3 L [.int a2, .int a1, .int a0] h = (Run 118 0 [some (.int a0), some (.int a1), some (.int a2)] [] h).bind fun o => aft 147 3 6 L [] o := Rc (c := 118) (As := [.int a0, .int a1, .int a2]) (S' := []) (pc' := 6) rfl
set_option maxRecDepth 100000 in
theorem e147_6 {L : Lo} {S : List Value} {h : Hp} {x : Int32} : Run 147 6 L (.int x :: S) h = if x = 0 then Run 147 54 L S h else Run 147 9 L S h := Rbr (c := cnd .eq x 0 = true) (off := 48) rfl rfl cnd_eq
set_option maxRecDepth 100000 in
theorem e147_9 {L : Lo} {S : List Value} {h : Hp} {x0 x1 : Option Value} {v : Int32} : Run 147 9 (x0 :: x1 :: some (.int v) :: L) S h = Run 147 10 (x0 :: x1 :: some (.int v) :: L) (.int v :: S) h := Rg rfl
set_option maxRecDepth 100000 in
theorem e147_10 {L : Lo} {S : List Value} {h : Hp} : Run 147 10 L S h = Run 147 11 L (.int 0 :: S) h := Rg rfl
set_option maxRecDepth 100000 in
theorem e147_11 {L : Lo} {S : List Value} {h : Hp} : Run 147 11 L S h = Run 147 12 L (.int 5 :: S) h := Rg rfl
set_option maxRecDepth 100000 in
theorem e147_12 {L : Lo} {h : Hp} {a2 : Int32} {a1 : Int32} {a0 : Int32} : Run 147 12 L [.int a2, .int a1, .int a0] h = (Run 118 0 [some (.int a0), some (.int a1), some (.int a2)] [] h).bind fun o => aft 147 12 15 L [] o := Rc (c := 118) (As := [.int a0, .int a1, .int a2]) (S' := []) (pc' := 15) rfl
set_option maxRecDepth 100000 in
theorem e147_15 {L : Lo} {S : List Value} {h : Hp} {x : Int32} : Run 147 15 L (.int x :: S) h = if x = 0 then Run 147 54 L S h else Run 147 18 L S h := Rbr (c := cnd .eq x 0 = true) (off := 39) rfl rfl cnd_eq
set_option maxRecDepth 100000 in
theorem e147_18 {L : Lo} {S : List Value} {h : Hp} {x0 x1 x2 : Option Value} {v : Int32} : Run 147 18 (x0 :: x1 :: x2 :: some (.int v) :: L) S h = Run 147 19 (x0 :: x1 :: x2 :: some (.int v) :: L) (.int v :: S) h := Rg rfl
set_option maxRecDepth 100000 in
theorem e147_19 {L : Lo} {S : List Value} {h : Hp} : Run 147 19 L S h = Run 147 20 L (.int 1 :: S) h := Rg rfl
set_option maxRecDepth 100000 in
theorem e147_20 {L : Lo} {S : List Value} {h : Hp} : Run 147 20 L S h = Run 147 22 L (.int 60 :: S) h := Rg rfl
set_option maxRecDepth 100000 in
theorem e147_22 {L : Lo} {h : Hp} {a2 : Int32} {a1 : Int32} {a0 : Int32} : Run 147 22 L [.int a2, .int a1, .int a0] h = (Run 118 0 [some (.int a0), some (.int a1), some (.int a2)] [] h).bind fun o => aft 147 22 25 L [] o := Rc (c := 118) (As := [.int a0, .int a1, .int a2]) (S' := []) (pc' := 25) rfl
set_option maxRecDepth 100000 in
theorem e147_25 {L : Lo} {S : List Value} {h : Hp} {x : Int32} : Run 147 25 L (.int x :: S) h = if x = 0 then Run 147 54 L S h else Run 147 28 L S h := Rbr (c := cnd .eq x 0 = true) (off := 29) rfl rfl cnd_eq
set_option maxRecDepth 100000 in
theorem e147_28 {L : Lo} {S : List Value} {h : Hp} {x0 x1 x2 x3 : Option Value} {v : Int32} : Run 147 28 (x0 :: x1 :: x2 :: x3 :: some (.int v) :: L) S h = Run 147 30 (x0 :: x1 :: x2 :: x3 :: some (.int v) :: L) (.int v :: S) h := Rg rfl
set_option maxRecDepth 100000 in
theorem e147_30 {L : Lo} {S : List Value} {h : Hp} : Run 147 30 L S h = Run 147 31 L (.int 0 :: S) h := Rg rfl
set_option maxRecDepth 100000 in
theorem e147_31 {L : Lo} {S : List Value} {h : Hp} : Run 147 31 L S h = Run 147 33 L (.int 12 :: S) h := Rg rfl
set_option maxRecDepth 100000 in
theorem e147_33 {L : Lo} {h : Hp} {a2 : Int32} {a1 : Int32} {a0 : Int32} : Run 147 33 L [.int a2, .int a1, .int a0] h = (Run 118 0 [some (.int a0), some (.int a1), some (.int a2)] [] h).bind fun o => aft 147 33 36 L [] o := Rc (c := 118) (As := [.int a0, .int a1, .int a2]) (S' := []) (pc' := 36) rfl
set_option maxRecDepth 100000 in
theorem e147_36 {L : Lo} {S : List Value} {h : Hp} {x : Int32} : Run 147 36 L (.int x :: S) h = if x = 0 then Run 147 54 L S h else Run 147 39 L S h := Rbr (c := cnd .eq x 0 = true) (off := 18) rfl rfl cnd_eq
set_option maxRecDepth 100000 in
theorem e147_39 {L : Lo} {S : List Value} {h : Hp} {x0 x1 x2 x3 x4 : Option Value} {v : Int32} : Run 147 39 (x0 :: x1 :: x2 :: x3 :: x4 :: some (.int v) :: L) S h = Run 147 41 (x0 :: x1 :: x2 :: x3 :: x4 :: some (.int v) :: L) (.int v :: S) h := Rg rfl
set_option maxRecDepth 100000 in
theorem e147_41 {L : Lo} {S : List Value} {h : Hp} : Run 147 41 L S h = Run 147 42 L (.int 1 :: S) h := Rg rfl
set_option maxRecDepth 100000 in
theorem e147_42 {L : Lo} {S : List Value} {h : Hp} : Run 147 42 L S h = Run 147 44 L (.int 60 :: S) h := Rg rfl
set_option maxRecDepth 100000 in
theorem e147_44 {L : Lo} {h : Hp} {a2 : Int32} {a1 : Int32} {a0 : Int32} : Run 147 44 L [.int a2, .int a1, .int a0] h = (Run 118 0 [some (.int a0), some (.int a1), some (.int a2)] [] h).bind fun o => aft 147 44 47 L [] o := Rc (c := 118) (As := [.int a0, .int a1, .int a2]) (S' := []) (pc' := 47) rfl
set_option maxRecDepth 100000 in
theorem e147_47 {L : Lo} {S : List Value} {h : Hp} {x : Int32} : Run 147 47 L (.int x :: S) h = if x = 0 then Run 147 54 L S h else Run 147 50 L S h := Rbr (c := cnd .eq x 0 = true) (off := 7) rfl rfl cnd_eq
set_option maxRecDepth 100000 in
theorem e147_50 {L : Lo} {S : List Value} {h : Hp} : Run 147 50 L S h = Run 147 51 L (.int 1 :: S) h := Rg rfl
set_option maxRecDepth 100000 in
theorem e147_51 {L : Lo} {S : List Value} {h : Hp} : Run 147 51 L S h = Run 147 55 L S h := Rg rfl
set_option maxRecDepth 100000 in
theorem e147_54 {L : Lo} {S : List Value} {h : Hp} : Run 147 54 L S h = Run 147 55 L (.int 0 :: S) h := Rg rfl
set_option maxRecDepth 100000 in
theorem e147_55 {L : Lo} {h : Hp} {x : Int32} (hx : narrow .boolean (.int x) = .int x) : Run 147 55 L [.int x] h = some (.inl (some (.int x)), h) := Rd (if_pos hx)
set_option maxRecDepth 100000 in
theorem e148_0 {L : Lo} {S : List Value} {h : Hp} {v : Nat} : Run 148 0 (some (.ref v) :: L) S h = Run 148 1 (some (.ref v) :: L) (.ref v :: S) h := Rg rfl
set_option maxRecDepth 100000 in
theorem e148_1 {L : Lo} {S : List Value} {h : Hp} {v : Nat} : Run 148 1 (some (.ref v) :: L) S h = Run 148 2 (some (.ref v) :: L) (.ref v :: S) h := Rg rfl
set_option maxRecDepth 100000 in
theorem e148_2 {L : Lo} {S : List Value} {h : Hp} {x0 x1 : Option Value} {v : Int32} : Run 148 2 (x0 :: x1 :: some (.int v) :: L) S h = Run 148 3 (x0 :: x1 :: some (.int v) :: L) (.int v :: S) h := Rg rfl
set_option maxRecDepth 100000 in
theorem e148_3 {L : Lo} {h : Hp} {a2 : Int32} {a1 : Nat} {a0 : Nat} (hO : isO h a1 9 = true) : Run 148 3 L [.int a2, .ref a1, .ref a0] h = (Run 123 0 [some (.ref a1), some (.int a2)] [] h).bind fun o => aft 148 3 6 L [.ref a0] o := Rcv (c := 123) (As := [.int a2]) (S' := [.ref a0]) (pc' := 6) 9 rfl hO
set_option maxRecDepth 100000 in
theorem e148_6 {L : Lo} {S : List Value} {h : Hp} {x : Int32} : Run 148 6 L (.int x :: S) h = if x = 0 then Run 148 9 L S h else Run 148 13 L S h := RbrN (c := cnd .ne x 0 = true) (off := 7) rfl rfl cnd_ne
set_option maxRecDepth 100000 in
theorem e148_9 {L : Lo} {S : List Value} {h : Hp} : Run 148 9 L S h = Run 148 10 L (.int 1 :: S) h := Rg rfl
set_option maxRecDepth 100000 in
theorem e148_10 {L : Lo} {S : List Value} {h : Hp} : Run 148 10 L S h = Run 148 56 L S h := Rg rfl
set_option maxRecDepth 100000 in
theorem e148_13 {L : Lo} {S : List Value} {h : Hp} {v : Nat} : Run 148 13 (some (.ref v) :: L) S h = Run 148 14 (some (.ref v) :: L) (.ref v :: S) h := Rg rfl
set_option maxRecDepth 100000 in
theorem e148_14 {L : Lo} {S : List Value} {h : Hp} {x0 : Option Value} {v : Int32} : Run 148 14 (x0 :: some (.int v) :: L) S h = Run 148 15 (x0 :: some (.int v) :: L) (.int v :: S) h := Rg rfl
set_option maxRecDepth 100000 in
theorem e148_15 {L : Lo} {S : List Value} {h : Hp} {x0 x1 x2 : Option Value} {v : Int32} : Run 148 15 (x0 :: x1 :: x2 :: some (.int v) :: L) S h = Run 148 16 (x0 :: x1 :: x2 :: some (.int v) :: L) (.int v :: S) h := Rg rfl
set_option maxRecDepth 100000 in
theorem e148_16 {L : Lo} {S : List Value} {h : Hp} {x0 x1 x2 x3 : Option Value} {v : Int32} : Run 148 16 (x0 :: x1 :: x2 :: x3 :: some (.int v) :: L) S h = Run 148 18 (x0 :: x1 :: x2 :: x3 :: some (.int v) :: L) (.int v :: S) h := Rg rfl
set_option maxRecDepth 100000 in
theorem e148_18 {L : Lo} {S : List Value} {h : Hp} {x0 x1 x2 x3 x4 : Option Value} {v : Int32} : Run 148 18 (x0 :: x1 :: x2 :: x3 :: x4 :: some (.int v) :: L) S h = Run 148 20 (x0 :: x1 :: x2 :: x3 :: x4 :: some (.int v) :: L) (.int v :: S) h := Rg rfl
set_option maxRecDepth 100000 in
theorem e148_20 {L : Lo} {S : List Value} {h : Hp} {x0 x1 x2 x3 x4 x5 : Option Value} {v : Int32} : Run 148 20 (x0 :: x1 :: x2 :: x3 :: x4 :: x5 :: some (.int v) :: L) S h = Run 148 22 (x0 :: x1 :: x2 :: x3 :: x4 :: x5 :: some (.int v) :: L) (.int v :: S) h := Rg rfl
set_option maxRecDepth 100000 in
theorem e148_22 {L : Lo} {h : Hp} {a6 : Int32} {a5 : Int32} {a4 : Int32} {a3 : Int32} {a2 : Int32} {a1 : Nat} {a0 : Nat} (hO : isO h a1 9 = true) : Run 148 22 L [.int a6, .int a5, .int a4, .int a3, .int a2, .ref a1, .ref a0] h = (Run 147 0 [some (.ref a1), some (.int a2), some (.int a3), some (.int a4), some (.int a5), some (.int a6)] [] h).bind fun o => aft 148 22 25 L [.ref a0] o := Rcv (c := 147) (As := [.int a2, .int a3, .int a4, .int a5, .int a6]) (S' := [.ref a0]) (pc' := 25) 9 rfl hO
set_option maxRecDepth 100000 in
theorem e148_25 {L : Lo} {S : List Value} {h : Hp} {x : Int32} : Run 148 25 L (.int x :: S) h = if x = 0 then Run 148 28 L S h else Run 148 32 L S h := RbrN (c := cnd .ne x 0 = true) (off := 7) rfl rfl cnd_ne
set_option maxRecDepth 100000 in
theorem e148_28 {L : Lo} {S : List Value} {h : Hp} : Run 148 28 L S h = Run 148 29 L (.int 2 :: S) h := Rg rfl
set_option maxRecDepth 100000 in
theorem e148_29 {L : Lo} {S : List Value} {h : Hp} : Run 148 29 L S h = Run 148 56 L S h := Rg rfl
set_option maxRecDepth 100000 in
theorem e148_32 {L : Lo} {S : List Value} {h : Hp} {v : Nat} : Run 148 32 (some (.ref v) :: L) S h = Run 148 33 (some (.ref v) :: L) (.ref v :: S) h := Rg rfl
set_option maxRecDepth 100000 in
theorem e148_33 {L : Lo} {S : List Value} {h : Hp} {b : Nat} : Run 148 33 L (.ref b :: S) h = (gf h 9 0 b).bind fun v => Run 148 36 L (v :: S) h := Rb rfl fun _ => rfl
set_option maxRecDepth 100000 in
theorem e148_36 {L : Lo} {S : List Value} {h : Hp} : Run 148 36 L S h = Run 148 37 L (.int 5 :: S) h := Rg rfl
set_option maxRecDepth 100000 in
theorem e148_37 {L : Lo} {S : List Value} {h : Hp} {i : Int32} {b : Nat} : Run 148 37 L (.int i :: .ref b :: S) h = (gaI h b i).bind fun v => Run 148 38 L (.int v :: S) h := Rb rfl fun _ => rfl
set_option maxRecDepth 100000 in
theorem e148_38 {L : Lo} {S : List Value} {h : Hp} : Run 148 38 L S h = Run 148 40 L (.int 8 :: S) h := Rg rfl
set_option maxRecDepth 100000 in
theorem e148_40 {L : Lo} {S : List Value} {h : Hp} {x z : Int32} : Run 148 40 L (.int z :: .int x :: S) h = if x = z then Run 148 51 L S h else Run 148 43 L S h := Rbr (c := cnd .eq x z = true) (off := 11) rfl rfl cnd_eq
set_option maxRecDepth 100000 in
theorem e148_43 {L : Lo} {S : List Value} {h : Hp} {v : Nat} : Run 148 43 (some (.ref v) :: L) S h = Run 148 44 (some (.ref v) :: L) (.ref v :: S) h := Rg rfl
set_option maxRecDepth 100000 in
theorem e148_44 {L : Lo} {S : List Value} {h : Hp} {x0 x1 : Option Value} {v : Int32} : Run 148 44 (x0 :: x1 :: some (.int v) :: L) S h = Run 148 45 (x0 :: x1 :: some (.int v) :: L) (.int v :: S) h := Rg rfl
set_option maxRecDepth 100000 in
theorem e148_45 {L : Lo} {h : Hp} {a2 : Int32} {a1 : Nat} {a0 : Nat} (hO : isO h a1 9 = true) : Run 148 45 L [.int a2, .ref a1, .ref a0] h = (Run 133 0 [some (.ref a1), some (.int a2)] [] h).bind fun o => aft 148 45 48 L [.ref a0] o := Rcv (c := 133) (As := [.int a2]) (S' := [.ref a0]) (pc' := 48) 9 rfl hO
set_option maxRecDepth 100000 in
theorem e148_48 {L : Lo} {S : List Value} {h : Hp} {x : Int32} : Run 148 48 L (.int x :: S) h = if x = 0 then Run 148 51 L S h else Run 148 55 L S h := RbrN (c := cnd .ne x 0 = true) (off := 7) rfl rfl cnd_ne
set_option maxRecDepth 100000 in
theorem e148_51 {L : Lo} {S : List Value} {h : Hp} : Run 148 51 L S h = Run 148 52 L (.int 3 :: S) h := Rg rfl
set_option maxRecDepth 100000 in
theorem e148_52 {L : Lo} {S : List Value} {h : Hp} : Run 148 52 L S h = Run 148 56 L S h := Rg rfl
set_option maxRecDepth 100000 in
theorem e148_55 {L : Lo} {S : List Value} {h : Hp} : Run 148 55 L S h = Run 148 56 L (.int 0 :: S) h := Rg rfl
set_option maxRecDepth 100000 in
theorem e148_56 {L : Lo} {S : List Value} {h : Hp} {b : Nat} {v : Value} : Run 148 56 L (v :: .ref b :: S) h = (pf h 9 5 b v).bind fun h1 => Run 148 59 L S h1 := Rb rfl fun _ => rfl
set_option maxRecDepth 100000 in
theorem e148_59 {L : Lo} {S : List Value} {h : Hp} {v : Nat} : Run 148 59 (some (.ref v) :: L) S h = Run 148 60 (some (.ref v) :: L) (.ref v :: S) h := Rg rfl
set_option maxRecDepth 100000 in
theorem e148_60 {L : Lo} {S : List Value} {h : Hp} {b : Nat} : Run 148 60 L (.ref b :: S) h = (gf h 9 5 b).bind fun v => Run 148 63 L (v :: S) h := Rb rfl fun _ => rfl
set_option maxRecDepth 100000 in
theorem e148_63 {L : Lo} {S : List Value} {h : Hp} {x : Int32} : Run 148 63 L (.int x :: S) h = if x = 0 then Run 148 68 L S h else Run 148 66 L S h := Rbr (c := cnd .eq x 0 = true) (off := 5) rfl rfl cnd_eq
set_option maxRecDepth 100000 in
theorem e148_66 {L : Lo} {S : List Value} {h : Hp} : Run 148 66 L S h = Run 148 67 L (.int 0 :: S) h := Rg rfl
set_option maxRecDepth 100000 in
theorem e148_67 {L : Lo} {h : Hp} {x : Int32} : Run 148 67 L [.int x] h = some (.inl (some (.int x)), h) := Rd (if_pos (c := narrow .int (.int x) = .int x) rfl)
set_option maxRecDepth 100000 in
theorem e148_68 {L : Lo} {S : List Value} {h : Hp} {v : Nat} : Run 148 68 (some (.ref v) :: L) S h = Run 148 69 (some (.ref v) :: L) (.ref v :: S) h := Rg rfl
set_option maxRecDepth 100000 in
theorem e148_69 {L : Lo} {h : Hp} {a0 : Nat} (hO : isO h a0 9 = true) : Run 148 69 L [.ref a0] h = (Run 121 0 [some (.ref a0), none] [] h).bind fun o => aft 148 69 72 L [] o := Rcv (c := 121) (As := []) (S' := []) (pc' := 72) 9 rfl hO
set_option maxRecDepth 100000 in
theorem e148_72 {L : Lo} {S : List Value} {h : Hp} {v : Nat} : Run 148 72 (some (.ref v) :: L) S h = Run 148 73 (some (.ref v) :: L) (.ref v :: S) h := Rg rfl
set_option maxRecDepth 100000 in
theorem e148_73 {L : Lo} {S : List Value} {h : Hp} {b : Nat} : Run 148 73 L (.ref b :: S) h = (gf h 9 0 b).bind fun v => Run 148 76 L (v :: S) h := Rb rfl fun _ => rfl
set_option maxRecDepth 100000 in
theorem e148_76 {L : Lo} {S : List Value} {h : Hp} : Run 148 76 L S h = Run 148 77 L (.int 5 :: S) h := Rg rfl
set_option maxRecDepth 100000 in
theorem e148_77 {L : Lo} {S : List Value} {h : Hp} {i : Int32} {b : Nat} : Run 148 77 L (.int i :: .ref b :: S) h = (gaI h b i).bind fun v => Run 148 78 L (.int v :: S) h := Rb rfl fun _ => rfl
set_option maxRecDepth 100000 in
theorem e148_78 {L : Lo} {S : List Value} {h : Hp} {x0 x1 x2 x3 x4 x5 x6 : Option Value} {y : Option Value} {v : Int32} : Run 148 78 (x0 :: x1 :: x2 :: x3 :: x4 :: x5 :: x6 :: y :: L) (.int v :: S) h = Run 148 80 (x0 :: x1 :: x2 :: x3 :: x4 :: x5 :: ck x6 :: some (.int v) :: L) S h := Rg rfl
set_option maxRecDepth 100000 in
theorem e148_80 {L : Lo} {S : List Value} {h : Hp} {v : Nat} : Run 148 80 (some (.ref v) :: L) S h = Run 148 81 (some (.ref v) :: L) (.ref v :: S) h := Rg rfl
set_option maxRecDepth 100000 in
theorem e148_81 {L : Lo} {S : List Value} {h : Hp} {b : Nat} : Run 148 81 L (.ref b :: S) h = (gf h 9 0 b).bind fun v => Run 148 84 L (v :: S) h := Rb rfl fun _ => rfl
set_option maxRecDepth 100000 in
theorem e148_84 {L : Lo} {S : List Value} {h : Hp} : Run 148 84 L S h = Run 148 85 L (.int 5 :: S) h := Rg rfl
set_option maxRecDepth 100000 in
theorem e148_85 {L : Lo} {S : List Value} {h : Hp} {v : Int32} {w : Nat} : Run 148 85 L (.int v :: .ref w :: S) h = Run 148 86 L (.int v :: .ref w :: .int v :: .ref w :: S) h := Rg rfl
set_option maxRecDepth 100000 in
theorem e148_86 {L : Lo} {S : List Value} {h : Hp} {i : Int32} {b : Nat} : Run 148 86 L (.int i :: .ref b :: S) h = (gaI h b i).bind fun v => Run 148 87 L (.int v :: S) h := Rb rfl fun _ => rfl
set_option maxRecDepth 100000 in
theorem e148_87 {L : Lo} {S : List Value} {h : Hp} : Run 148 87 L S h = Run 148 88 L (.int 1 :: S) h := Rg rfl
set_option maxRecDepth 100000 in
theorem e148_88 {L : Lo} {S : List Value} {h : Hp} {x z : Int32} : Run 148 88 L (.int z :: .int x :: S) h = Run 148 89 L (.int (x + z) :: S) h := Rg rfl
set_option maxRecDepth 100000 in
theorem e148_89 {L : Lo} {S : List Value} {h : Hp} {v : Int32} {i : Int32} {b : Nat} : Run 148 89 L (.int v :: .int i :: .ref b :: S) h = (paI h b i v).bind fun h1 => Run 148 90 L S h1 := Rb rfl fun _ => rfl
set_option maxRecDepth 100000 in
theorem e148_90 {L : Lo} {S : List Value} {h : Hp} {v : Nat} : Run 148 90 (some (.ref v) :: L) S h = Run 148 91 (some (.ref v) :: L) (.ref v :: S) h := Rg rfl
set_option maxRecDepth 100000 in
theorem e148_91 {L : Lo} {S : List Value} {h : Hp} {x0 x1 x2 x3 x4 x5 x6 : Option Value} {v : Int32} : Run 148 91 (x0 :: x1 :: x2 :: x3 :: x4 :: x5 :: x6 :: some (.int v) :: L) S h = Run 148 93 (x0 :: x1 :: x2 :: x3 :: x4 :: x5 :: x6 :: some (.int v) :: L) (.int v :: S) h := Rg rfl
set_option maxRecDepth 100000 in
theorem e148_93 {L : Lo} {S : List Value} {h : Hp} : Run 148 93 L S h = Run 148 94 L (.int 0 :: S) h := Rg rfl
set_option maxRecDepth 100000 in
theorem e148_94 {L : Lo} {S : List Value} {h : Hp} {x0 : Option Value} {v : Int32} : Run 148 94 (x0 :: some (.int v) :: L) S h = Run 148 95 (x0 :: some (.int v) :: L) (.int v :: S) h := Rg rfl
set_option maxRecDepth 100000 in
theorem e148_95 {L : Lo} {h : Hp} {a3 : Int32} {a2 : Int32} {a1 : Int32} {a0 : Nat} (hO : isO h a0 9 = true) : Run 148 95 L [.int a3, .int a2, .int a1, .ref a0] h = (Run 126 0 [some (.ref a0), some (.int a1), some (.int a2), some (.int a3)] [] h).bind fun o => aft 148 95 98 L [] o := Rcv (c := 126) (As := [.int a1, .int a2, .int a3]) (S' := []) (pc' := 98) 9 rfl hO
set_option maxRecDepth 100000 in
theorem e148_98 {L : Lo} {S : List Value} {h : Hp} {v : Nat} : Run 148 98 (some (.ref v) :: L) S h = Run 148 99 (some (.ref v) :: L) (.ref v :: S) h := Rg rfl
set_option maxRecDepth 100000 in
theorem e148_99 {L : Lo} {S : List Value} {h : Hp} {x0 x1 x2 x3 x4 x5 x6 : Option Value} {v : Int32} : Run 148 99 (x0 :: x1 :: x2 :: x3 :: x4 :: x5 :: x6 :: some (.int v) :: L) S h = Run 148 101 (x0 :: x1 :: x2 :: x3 :: x4 :: x5 :: x6 :: some (.int v) :: L) (.int v :: S) h := Rg rfl
set_option maxRecDepth 100000 in
theorem e148_101 {L : Lo} {S : List Value} {h : Hp} : Run 148 101 L S h = Run 148 102 L (.int 1 :: S) h := Rg rfl
set_option maxRecDepth 100000 in
theorem e148_102 {L : Lo} {S : List Value} {h : Hp} {x0 x1 : Option Value} {v : Int32} : Run 148 102 (x0 :: x1 :: some (.int v) :: L) S h = Run 148 103 (x0 :: x1 :: some (.int v) :: L) (.int v :: S) h := Rg rfl
set_option maxRecDepth 100000 in
theorem e148_103 {L : Lo} {h : Hp} {a3 : Int32} {a2 : Int32} {a1 : Int32} {a0 : Nat} (hO : isO h a0 9 = true) : Run 148 103 L [.int a3, .int a2, .int a1, .ref a0] h = (Run 126 0 [some (.ref a0), some (.int a1), some (.int a2), some (.int a3)] [] h).bind fun o => aft 148 103 106 L [] o := Rcv (c := 126) (As := [.int a1, .int a2, .int a3]) (S' := []) (pc' := 106) 9 rfl hO
set_option maxRecDepth 100000 in
theorem e148_106 {L : Lo} {S : List Value} {h : Hp} {v : Nat} : Run 148 106 (some (.ref v) :: L) S h = Run 148 107 (some (.ref v) :: L) (.ref v :: S) h := Rg rfl
set_option maxRecDepth 100000 in
theorem e148_107 {L : Lo} {S : List Value} {h : Hp} {x0 x1 x2 x3 x4 x5 x6 : Option Value} {v : Int32} : Run 148 107 (x0 :: x1 :: x2 :: x3 :: x4 :: x5 :: x6 :: some (.int v) :: L) S h = Run 148 109 (x0 :: x1 :: x2 :: x3 :: x4 :: x5 :: x6 :: some (.int v) :: L) (.int v :: S) h := Rg rfl
set_option maxRecDepth 100000 in
theorem e148_109 {L : Lo} {S : List Value} {h : Hp} : Run 148 109 L S h = Run 148 110 L (.int 2 :: S) h := Rg rfl
set_option maxRecDepth 100000 in
theorem e148_110 {L : Lo} {S : List Value} {h : Hp} {x0 x1 x2 : Option Value} {v : Int32} : Run 148 110 (x0 :: x1 :: x2 :: some (.int v) :: L) S h = Run 148 111 (x0 :: x1 :: x2 :: some (.int v) :: L) (.int v :: S) h := Rg rfl
set_option maxRecDepth 100000 in
theorem e148_111 {L : Lo} {h : Hp} {a3 : Int32} {a2 : Int32} {a1 : Int32} {a0 : Nat} (hO : isO h a0 9 = true) : Run 148 111 L [.int a3, .int a2, .int a1, .ref a0] h = (Run 126 0 [some (.ref a0), some (.int a1), some (.int a2), some (.int a3)] [] h).bind fun o => aft 148 111 114 L [] o := Rcv (c := 126) (As := [.int a1, .int a2, .int a3]) (S' := []) (pc' := 114) 9 rfl hO
set_option maxRecDepth 100000 in
theorem e148_114 {L : Lo} {S : List Value} {h : Hp} {v : Nat} : Run 148 114 (some (.ref v) :: L) S h = Run 148 115 (some (.ref v) :: L) (.ref v :: S) h := Rg rfl
set_option maxRecDepth 100000 in
theorem e148_115 {L : Lo} {S : List Value} {h : Hp} {x0 x1 x2 x3 x4 x5 x6 : Option Value} {v : Int32} : Run 148 115 (x0 :: x1 :: x2 :: x3 :: x4 :: x5 :: x6 :: some (.int v) :: L) S h = Run 148 117 (x0 :: x1 :: x2 :: x3 :: x4 :: x5 :: x6 :: some (.int v) :: L) (.int v :: S) h := Rg rfl
set_option maxRecDepth 100000 in
theorem e148_117 {L : Lo} {S : List Value} {h : Hp} : Run 148 117 L S h = Run 148 118 L (.int 3 :: S) h := Rg rfl
set_option maxRecDepth 100000 in
theorem e148_118 {L : Lo} {S : List Value} {h : Hp} {x0 x1 x2 x3 : Option Value} {v : Int32} : Run 148 118 (x0 :: x1 :: x2 :: x3 :: some (.int v) :: L) S h = Run 148 120 (x0 :: x1 :: x2 :: x3 :: some (.int v) :: L) (.int v :: S) h := Rg rfl
set_option maxRecDepth 100000 in
theorem e148_120 {L : Lo} {h : Hp} {a3 : Int32} {a2 : Int32} {a1 : Int32} {a0 : Nat} (hO : isO h a0 9 = true) : Run 148 120 L [.int a3, .int a2, .int a1, .ref a0] h = (Run 126 0 [some (.ref a0), some (.int a1), some (.int a2), some (.int a3)] [] h).bind fun o => aft 148 120 123 L [] o := Rcv (c := 126) (As := [.int a1, .int a2, .int a3]) (S' := []) (pc' := 123) 9 rfl hO
set_option maxRecDepth 100000 in
theorem e148_123 {L : Lo} {S : List Value} {h : Hp} {v : Nat} : Run 148 123 (some (.ref v) :: L) S h = Run 148 124 (some (.ref v) :: L) (.ref v :: S) h := Rg rfl
set_option maxRecDepth 100000 in
theorem e148_124 {L : Lo} {S : List Value} {h : Hp} {x0 x1 x2 x3 x4 x5 x6 : Option Value} {v : Int32} : Run 148 124 (x0 :: x1 :: x2 :: x3 :: x4 :: x5 :: x6 :: some (.int v) :: L) S h = Run 148 126 (x0 :: x1 :: x2 :: x3 :: x4 :: x5 :: x6 :: some (.int v) :: L) (.int v :: S) h := Rg rfl
set_option maxRecDepth 100000 in
theorem e148_126 {L : Lo} {S : List Value} {h : Hp} : Run 148 126 L S h = Run 148 127 L (.int 4 :: S) h := Rg rfl
set_option maxRecDepth 100000 in
theorem e148_127 {L : Lo} {S : List Value} {h : Hp} : Run 148 127 L S h = Run 148 129 L (.int 20 :: S) h := Rg rfl
set_option maxRecDepth 100000 in
theorem e148_129 {L : Lo} {h : Hp} {a3 : Int32} {a2 : Int32} {a1 : Int32} {a0 : Nat} (hO : isO h a0 9 = true) : Run 148 129 L [.int a3, .int a2, .int a1, .ref a0] h = (Run 126 0 [some (.ref a0), some (.int a1), some (.int a2), some (.int a3)] [] h).bind fun o => aft 148 129 132 L [] o := Rcv (c := 126) (As := [.int a1, .int a2, .int a3]) (S' := []) (pc' := 132) 9 rfl hO
set_option maxRecDepth 100000 in
theorem e148_132 {L : Lo} {S : List Value} {h : Hp} {v : Nat} : Run 148 132 (some (.ref v) :: L) S h = Run 148 133 (some (.ref v) :: L) (.ref v :: S) h := Rg rfl
set_option maxRecDepth 100000 in
theorem e148_133 {L : Lo} {S : List Value} {h : Hp} {x0 x1 x2 x3 x4 x5 x6 : Option Value} {v : Int32} : Run 148 133 (x0 :: x1 :: x2 :: x3 :: x4 :: x5 :: x6 :: some (.int v) :: L) S h = Run 148 135 (x0 :: x1 :: x2 :: x3 :: x4 :: x5 :: x6 :: some (.int v) :: L) (.int v :: S) h := Rg rfl
set_option maxRecDepth 100000 in
theorem e148_135 {L : Lo} {S : List Value} {h : Hp} : Run 148 135 L S h = Run 148 136 L (.int 5 :: S) h := Rg rfl
set_option maxRecDepth 100000 in
theorem e148_136 {L : Lo} {S : List Value} {h : Hp} {x0 x1 x2 x3 x4 : Option Value} {v : Int32} : Run 148 136 (x0 :: x1 :: x2 :: x3 :: x4 :: some (.int v) :: L) S h = Run 148 138 (x0 :: x1 :: x2 :: x3 :: x4 :: some (.int v) :: L) (.int v :: S) h := Rg rfl
set_option maxRecDepth 100000 in
theorem e148_138 {L : Lo} {h : Hp} {a3 : Int32} {a2 : Int32} {a1 : Int32} {a0 : Nat} (hO : isO h a0 9 = true) : Run 148 138 L [.int a3, .int a2, .int a1, .ref a0] h = (Run 126 0 [some (.ref a0), some (.int a1), some (.int a2), some (.int a3)] [] h).bind fun o => aft 148 138 141 L [] o := Rcv (c := 126) (As := [.int a1, .int a2, .int a3]) (S' := []) (pc' := 141) 9 rfl hO
set_option maxRecDepth 100000 in
theorem e148_141 {L : Lo} {S : List Value} {h : Hp} {v : Nat} : Run 148 141 (some (.ref v) :: L) S h = Run 148 142 (some (.ref v) :: L) (.ref v :: S) h := Rg rfl
set_option maxRecDepth 100000 in
theorem e148_142 {L : Lo} {S : List Value} {h : Hp} {x0 x1 x2 x3 x4 x5 x6 : Option Value} {v : Int32} : Run 148 142 (x0 :: x1 :: x2 :: x3 :: x4 :: x5 :: x6 :: some (.int v) :: L) S h = Run 148 144 (x0 :: x1 :: x2 :: x3 :: x4 :: x5 :: x6 :: some (.int v) :: L) (.int v :: S) h := Rg rfl
set_option maxRecDepth 100000 in
theorem e148_144 {L : Lo} {S : List Value} {h : Hp} : Run 148 144 L S h = Run 148 146 L (.int 6 :: S) h := Rg rfl
set_option maxRecDepth 100000 in
theorem e148_146 {L : Lo} {S : List Value} {h : Hp} {x0 x1 x2 x3 x4 : Option Value} {v : Int32} : Run 148 146 (x0 :: x1 :: x2 :: x3 :: x4 :: some (.int v) :: L) S h = Run 148 148 (x0 :: x1 :: x2 :: x3 :: x4 :: some (.int v) :: L) (.int v :: S) h := Rg rfl
set_option maxRecDepth 100000 in
theorem e148_148 {L : Lo} {h : Hp} {a3 : Int32} {a2 : Int32} {a1 : Int32} {a0 : Nat} (hO : isO h a0 9 = true) : Run 148 148 L [.int a3, .int a2, .int a1, .ref a0] h = (Run 126 0 [some (.ref a0), some (.int a1), some (.int a2), some (.int a3)] [] h).bind fun o => aft 148 148 151 L [] o := Rcv (c := 126) (As := [.int a1, .int a2, .int a3]) (S' := []) (pc' := 151) 9 rfl hO
set_option maxRecDepth 100000 in
theorem e148_151 {L : Lo} {S : List Value} {h : Hp} {v : Nat} : Run 148 151 (some (.ref v) :: L) S h = Run 148 152 (some (.ref v) :: L) (.ref v :: S) h := Rg rfl
set_option maxRecDepth 100000 in
theorem e148_152 {L : Lo} {S : List Value} {h : Hp} {x0 x1 x2 x3 x4 x5 x6 : Option Value} {v : Int32} : Run 148 152 (x0 :: x1 :: x2 :: x3 :: x4 :: x5 :: x6 :: some (.int v) :: L) S h = Run 148 154 (x0 :: x1 :: x2 :: x3 :: x4 :: x5 :: x6 :: some (.int v) :: L) (.int v :: S) h := Rg rfl
set_option maxRecDepth 100000 in
theorem e148_154 {L : Lo} {S : List Value} {h : Hp} : Run 148 154 L S h = Run 148 156 L (.int 7 :: S) h := Rg rfl
set_option maxRecDepth 100000 in
theorem e148_156 {L : Lo} {S : List Value} {h : Hp} {x0 x1 x2 x3 x4 x5 : Option Value} {v : Int32} : Run 148 156 (x0 :: x1 :: x2 :: x3 :: x4 :: x5 :: some (.int v) :: L) S h = Run 148 158 (x0 :: x1 :: x2 :: x3 :: x4 :: x5 :: some (.int v) :: L) (.int v :: S) h := Rg rfl
set_option maxRecDepth 100000 in
theorem e148_158 {L : Lo} {h : Hp} {a3 : Int32} {a2 : Int32} {a1 : Int32} {a0 : Nat} (hO : isO h a0 9 = true) : Run 148 158 L [.int a3, .int a2, .int a1, .ref a0] h = (Run 126 0 [some (.ref a0), some (.int a1), some (.int a2), some (.int a3)] [] h).bind fun o => aft 148 158 161 L [] o := Rcv (c := 126) (As := [.int a1, .int a2, .int a3]) (S' := []) (pc' := 161) 9 rfl hO
set_option maxRecDepth 100000 in
theorem e148_161 {L : Lo} {S : List Value} {h : Hp} {v : Nat} : Run 148 161 (some (.ref v) :: L) S h = Run 148 162 (some (.ref v) :: L) (.ref v :: S) h := Rg rfl
set_option maxRecDepth 100000 in
theorem e148_162 {L : Lo} {S : List Value} {h : Hp} {x0 x1 x2 x3 x4 x5 x6 : Option Value} {v : Int32} : Run 148 162 (x0 :: x1 :: x2 :: x3 :: x4 :: x5 :: x6 :: some (.int v) :: L) S h = Run 148 164 (x0 :: x1 :: x2 :: x3 :: x4 :: x5 :: x6 :: some (.int v) :: L) (.int v :: S) h := Rg rfl
set_option maxRecDepth 100000 in
theorem e148_164 {L : Lo} {S : List Value} {h : Hp} : Run 148 164 L S h = Run 148 166 L (.int 12 :: S) h := Rg rfl
set_option maxRecDepth 100000 in
theorem e148_166 {L : Lo} {S : List Value} {h : Hp} {x0 x1 x2 x3 x4 x5 : Option Value} {v : Int32} : Run 148 166 (x0 :: x1 :: x2 :: x3 :: x4 :: x5 :: some (.int v) :: L) S h = Run 148 168 (x0 :: x1 :: x2 :: x3 :: x4 :: x5 :: some (.int v) :: L) (.int v :: S) h := Rg rfl
set_option maxRecDepth 100000 in
theorem e148_168 {L : Lo} {h : Hp} {a3 : Int32} {a2 : Int32} {a1 : Int32} {a0 : Nat} (hO : isO h a0 9 = true) : Run 148 168 L [.int a3, .int a2, .int a1, .ref a0] h = (Run 126 0 [some (.ref a0), some (.int a1), some (.int a2), some (.int a3)] [] h).bind fun o => aft 148 168 171 L [] o := Rcv (c := 126) (As := [.int a1, .int a2, .int a3]) (S' := []) (pc' := 171) 9 rfl hO
set_option maxRecDepth 100000 in
theorem e148_171 {L : Lo} {S : List Value} {h : Hp} {v : Nat} : Run 148 171 (some (.ref v) :: L) S h = Run 148 172 (some (.ref v) :: L) (.ref v :: S) h := Rg rfl
set_option maxRecDepth 100000 in
theorem e148_172 {L : Lo} {S : List Value} {h : Hp} {x0 x1 x2 x3 x4 x5 x6 : Option Value} {v : Int32} : Run 148 172 (x0 :: x1 :: x2 :: x3 :: x4 :: x5 :: x6 :: some (.int v) :: L) S h = Run 148 174 (x0 :: x1 :: x2 :: x3 :: x4 :: x5 :: x6 :: some (.int v) :: L) (.int v :: S) h := Rg rfl
set_option maxRecDepth 100000 in
theorem e148_174 {L : Lo} {S : List Value} {h : Hp} : Run 148 174 L S h = Run 148 176 L (.int 9 :: S) h := Rg rfl
set_option maxRecDepth 100000 in
theorem e148_176 {L : Lo} {S : List Value} {h : Hp} : Run 148 176 L S h = Run 148 177 L (.int 0 :: S) h := Rg rfl
set_option maxRecDepth 100000 in
theorem e148_177 {L : Lo} {h : Hp} {a3 : Int32} {a2 : Int32} {a1 : Int32} {a0 : Nat} (hO : isO h a0 9 = true) : Run 148 177 L [.int a3, .int a2, .int a1, .ref a0] h = (Run 126 0 [some (.ref a0), some (.int a1), some (.int a2), some (.int a3)] [] h).bind fun o => aft 148 177 180 L [] o := Rcv (c := 126) (As := [.int a1, .int a2, .int a3]) (S' := []) (pc' := 180) 9 rfl hO
set_option maxRecDepth 100000 in
theorem e148_180 {L : Lo} {S : List Value} {h : Hp} {v : Nat} : Run 148 180 (some (.ref v) :: L) S h = Run 148 181 (some (.ref v) :: L) (.ref v :: S) h := Rg rfl
set_option maxRecDepth 100000 in
theorem e148_181 {L : Lo} {S : List Value} {h : Hp} {x0 x1 x2 x3 x4 x5 x6 : Option Value} {v : Int32} : Run 148 181 (x0 :: x1 :: x2 :: x3 :: x4 :: x5 :: x6 :: some (.int v) :: L) S h = Run 148 183 (x0 :: x1 :: x2 :: x3 :: x4 :: x5 :: x6 :: some (.int v) :: L) (.int v :: S) h := Rg rfl
set_option maxRecDepth 100000 in
theorem e148_183 {L : Lo} {S : List Value} {h : Hp} : Run 148 183 L S h = Run 148 185 L (.int 10 :: S) h := Rg rfl
set_option maxRecDepth 100000 in
theorem e148_185 {L : Lo} {S : List Value} {h : Hp} : Run 148 185 L S h = Run 148 186 L (.int 0 :: S) h := Rg rfl
set_option maxRecDepth 100000 in
theorem e148_186 {L : Lo} {h : Hp} {a3 : Int32} {a2 : Int32} {a1 : Int32} {a0 : Nat} (hO : isO h a0 9 = true) : Run 148 186 L [.int a3, .int a2, .int a1, .ref a0] h = (Run 126 0 [some (.ref a0), some (.int a1), some (.int a2), some (.int a3)] [] h).bind fun o => aft 148 186 189 L [] o := Rcv (c := 126) (As := [.int a1, .int a2, .int a3]) (S' := []) (pc' := 189) 9 rfl hO
set_option maxRecDepth 100000 in
theorem e148_189 {L : Lo} {S : List Value} {h : Hp} {v : Nat} : Run 148 189 (some (.ref v) :: L) S h = Run 148 190 (some (.ref v) :: L) (.ref v :: S) h := Rg rfl
set_option maxRecDepth 100000 in
theorem e148_190 {L : Lo} {S : List Value} {h : Hp} {x0 x1 x2 x3 x4 x5 x6 : Option Value} {v : Int32} : Run 148 190 (x0 :: x1 :: x2 :: x3 :: x4 :: x5 :: x6 :: some (.int v) :: L) S h = Run 148 192 (x0 :: x1 :: x2 :: x3 :: x4 :: x5 :: x6 :: some (.int v) :: L) (.int v :: S) h := Rg rfl
set_option maxRecDepth 100000 in
theorem e148_192 {L : Lo} {S : List Value} {h : Hp} : Run 148 192 L S h = Run 148 194 L (.int 11 :: S) h := Rg rfl
set_option maxRecDepth 100000 in
theorem e148_194 {L : Lo} {S : List Value} {h : Hp} : Run 148 194 L S h = Run 148 195 L (.int (-1) :: S) h := Rg rfl
set_option maxRecDepth 100000 in
theorem e148_195 {L : Lo} {h : Hp} {a3 : Int32} {a2 : Int32} {a1 : Int32} {a0 : Nat} (hO : isO h a0 9 = true) : Run 148 195 L [.int a3, .int a2, .int a1, .ref a0] h = (Run 126 0 [some (.ref a0), some (.int a1), some (.int a2), some (.int a3)] [] h).bind fun o => aft 148 195 198 L [] o := Rcv (c := 126) (As := [.int a1, .int a2, .int a3]) (S' := []) (pc' := 198) 9 rfl hO
set_option maxRecDepth 100000 in
theorem e148_198 {L : Lo} {S : List Value} {h : Hp} {v : Nat} : Run 148 198 (some (.ref v) :: L) S h = Run 148 199 (some (.ref v) :: L) (.ref v :: S) h := Rg rfl
set_option maxRecDepth 100000 in
theorem e148_199 {L : Lo} {S : List Value} {h : Hp} {x0 x1 x2 x3 x4 x5 x6 : Option Value} {v : Int32} : Run 148 199 (x0 :: x1 :: x2 :: x3 :: x4 :: x5 :: x6 :: some (.int v) :: L) S h = Run 148 201 (x0 :: x1 :: x2 :: x3 :: x4 :: x5 :: x6 :: some (.int v) :: L) (.int v :: S) h := Rg rfl
set_option maxRecDepth 100000 in
theorem e148_201 {L : Lo} {h : Hp} {a1 : Int32} {a0 : Nat} (hO : isO h a0 9 = true) : Run 148 201 L [.int a1, .ref a0] h = (Run 146 0 [some (.ref a0), some (.int a1), none] [] h).bind fun o => aft 148 201 204 L [] o := Rcv (c := 146) (As := [.int a1]) (S' := []) (pc' := 204) 9 rfl hO
set_option maxRecDepth 100000 in
theorem e148_204 {L : Lo} {S : List Value} {h : Hp} {x0 x1 x2 x3 x4 x5 x6 : Option Value} {v : Int32} : Run 148 204 (x0 :: x1 :: x2 :: x3 :: x4 :: x5 :: x6 :: some (.int v) :: L) S h = Run 148 206 (x0 :: x1 :: x2 :: x3 :: x4 :: x5 :: x6 :: some (.int v) :: L) (.int v :: S) h := Rg rfl
set_option maxRecDepth 100000 in
theorem e148_206 {L : Lo} {h : Hp} {x : Int32} : Run 148 206 L [.int x] h = some (.inl (some (.int x)), h) := Rd (if_pos (c := narrow .int (.int x) = .int x) rfl)
set_option maxRecDepth 100000 in
theorem e149_0 {L : Lo} {S : List Value} {h : Hp} : Run 149 0 L S h = Run 149 1 L (.int 0 :: S) h := Rg rfl
set_option maxRecDepth 100000 in
theorem e149_1 {L : Lo} {S : List Value} {h : Hp} {x0 x1 : Option Value} {y : Option Value} {v : Int32} : Run 149 1 (x0 :: x1 :: y :: L) (.int v :: S) h = Run 149 2 (x0 :: ck x1 :: some (.int v) :: L) S h := Rg rfl
set_option maxRecDepth 100000 in
theorem e149_2 {L : Lo} {S : List Value} {h : Hp} : Run 149 2 L S h = Run 149 3 L (.int 0 :: S) h := Rg rfl
set_option maxRecDepth 100000 in
theorem e149_3 {L : Lo} {S : List Value} {h : Hp} {x0 x1 x2 : Option Value} {y : Option Value} {v : Int32} : Run 149 3 (x0 :: x1 :: x2 :: y :: L) (.int v :: S) h = Run 149 4 (x0 :: x1 :: ck x2 :: some (.int v) :: L) S h := Rg rfl
set_option maxRecDepth 100000 in
theorem e149_4 {L : Lo} {S : List Value} {h : Hp} {x0 x1 x2 : Option Value} {v : Int32} : Run 149 4 (x0 :: x1 :: x2 :: some (.int v) :: L) S h = Run 149 5 (x0 :: x1 :: x2 :: some (.int v) :: L) (.int v :: S) h := Rg rfl
set_option maxRecDepth 100000 in
theorem e149_5 {L : Lo} {S : List Value} {h : Hp} {v : Nat} : Run 149 5 (some (.ref v) :: L) S h = Run 149 6 (some (.ref v) :: L) (.ref v :: S) h := Rg rfl
set_option maxRecDepth 100000 in
theorem e149_6 {L : Lo} {S : List Value} {h : Hp} {b : Nat} : Run 149 6 L (.ref b :: S) h = (gf h 9 0 b).bind fun v => Run 149 9 L (v :: S) h := Rb rfl fun _ => rfl
set_option maxRecDepth 100000 in
theorem e149_9 {L : Lo} {S : List Value} {h : Hp} : Run 149 9 L S h = Run 149 10 L (.int 5 :: S) h := Rg rfl
set_option maxRecDepth 100000 in
theorem e149_10 {L : Lo} {S : List Value} {h : Hp} {i : Int32} {b : Nat} : Run 149 10 L (.int i :: .ref b :: S) h = (gaI h b i).bind fun v => Run 149 11 L (.int v :: S) h := Rb rfl fun _ => rfl
set_option maxRecDepth 100000 in
theorem e149_11 {L : Lo} {S : List Value} {h : Hp} {x z : Int32} : Run 149 11 L (.int z :: .int x :: S) h = if z ≤ x then Run 149 46 L S h else Run 149 14 L S h := Rbr (c := cnd .ge x z = true) (off := 35) rfl rfl cnd_ge
set_option maxRecDepth 100000 in
theorem e149_14 {L : Lo} {S : List Value} {h : Hp} {x0 x1 : Option Value} {v : Int32} : Run 149 14 (x0 :: x1 :: some (.int v) :: L) S h = Run 149 15 (x0 :: x1 :: some (.int v) :: L) (.int v :: S) h := Rg rfl
set_option maxRecDepth 100000 in
theorem e149_15 {L : Lo} {S : List Value} {h : Hp} {v : Nat} : Run 149 15 (some (.ref v) :: L) S h = Run 149 16 (some (.ref v) :: L) (.ref v :: S) h := Rg rfl
set_option maxRecDepth 100000 in
theorem e149_16 {L : Lo} {S : List Value} {h : Hp} {x0 x1 x2 : Option Value} {v : Int32} : Run 149 16 (x0 :: x1 :: x2 :: some (.int v) :: L) S h = Run 149 17 (x0 :: x1 :: x2 :: some (.int v) :: L) (.int v :: S) h := Rg rfl
set_option maxRecDepth 100000 in
theorem e149_17 {L : Lo} {S : List Value} {h : Hp} : Run 149 17 L S h = Run 149 18 L (.int 0 :: S) h := Rg rfl
set_option maxRecDepth 100000 in
theorem e149_18 {L : Lo} {h : Hp} {a3 : Int32} {a2 : Int32} {a1 : Nat} {a0 : Int32} (hO : isO h a1 9 = true) : Run 149 18 L [.int a3, .int a2, .ref a1, .int a0] h = (Run 125 0 [some (.ref a1), some (.int a2), some (.int a3)] [] h).bind fun o => aft 149 18 21 L [.int a0] o := Rcv (c := 125) (As := [.int a2, .int a3]) (S' := [.int a0]) (pc' := 21) 9 rfl hO
set_option maxRecDepth 100000 in
theorem e149_21 {L : Lo} {S : List Value} {h : Hp} {x0 : Option Value} {v : Int32} : Run 149 21 (x0 :: some (.int v) :: L) S h = Run 149 22 (x0 :: some (.int v) :: L) (.int v :: S) h := Rg rfl
set_option maxRecDepth 100000 in
theorem e149_22 {L : Lo} {S : List Value} {h : Hp} {x z : Int32} : Run 149 22 L (.int z :: .int x :: S) h = if x = z then Run 149 25 L S h else Run 149 37 L S h := RbrN (c := cnd .ne x z = true) (off := 15) rfl rfl cnd_ne
set_option maxRecDepth 100000 in
theorem e149_25 {L : Lo} {S : List Value} {h : Hp} {v : Nat} : Run 149 25 (some (.ref v) :: L) S h = Run 149 26 (some (.ref v) :: L) (.ref v :: S) h := Rg rfl
set_option maxRecDepth 100000 in
theorem e149_26 {L : Lo} {S : List Value} {h : Hp} {x0 x1 x2 : Option Value} {v : Int32} : Run 149 26 (x0 :: x1 :: x2 :: some (.int v) :: L) S h = Run 149 27 (x0 :: x1 :: x2 :: some (.int v) :: L) (.int v :: S) h := Rg rfl
set_option maxRecDepth 100000 in
theorem e149_27 {L : Lo} {h : Hp} {a2 : Int32} {a1 : Nat} {a0 : Int32} (hO : isO h a1 9 = true) : Run 149 27 L [.int a2, .ref a1, .int a0] h = (Run 127 0 [some (.ref a1), some (.int a2)] [] h).bind fun o => aft 149 27 30 L [.int a0] o := Rcv (c := 127) (As := [.int a2]) (S' := [.int a0]) (pc' := 30) 9 rfl hO
set_option maxRecDepth 100000 in
theorem e149_30 {L : Lo} {S : List Value} {h : Hp} {x : Int32} : Run 149 30 L (.int x :: S) h = if x = 0 then Run 149 37 L S h else Run 149 33 L S h := Rbr (c := cnd .eq x 0 = true) (off := 7) rfl rfl cnd_eq
set_option maxRecDepth 100000 in
theorem e149_33 {L : Lo} {S : List Value} {h : Hp} : Run 149 33 L S h = Run 149 34 L (.int 1 :: S) h := Rg rfl
set_option maxRecDepth 100000 in
theorem e149_34 {L : Lo} {S : List Value} {h : Hp} : Run 149 34 L S h = Run 149 38 L S h := Rg rfl
set_option maxRecDepth 100000 in
theorem e149_37 {L : Lo} {S : List Value} {h : Hp} : Run 149 37 L S h = Run 149 38 L (.int 0 :: S) h := Rg rfl
set_option maxRecDepth 100000 in
theorem e149_38 {L : Lo} {S : List Value} {h : Hp} {x z : Int32} : Run 149 38 L (.int z :: .int x :: S) h = Run 149 39 L (.int (x + z) :: S) h := Rg rfl
set_option maxRecDepth 100000 in
theorem e149_39 {L : Lo} {S : List Value} {h : Hp} {x0 x1 : Option Value} {y : Option Value} {v : Int32} : Run 149 39 (x0 :: x1 :: y :: L) (.int v :: S) h = Run 149 40 (x0 :: ck x1 :: some (.int v) :: L) S h := Rg rfl
set_option maxRecDepth 100000 in
theorem e149_40 {L : Lo} {S : List Value} {h : Hp} {x0 x1 x2 : Option Value} {v : Int32} : Run 149 40 (x0 :: x1 :: x2 :: some (.int v) :: L) S h = Run 149 43 (x0 :: x1 :: x2 :: some (.int (v + 1)) :: L) S h := Rg rfl
set_option maxRecDepth 100000 in
theorem e149_43 {L : Lo} {S : List Value} {h : Hp} : Run 149 43 L S h = Run 149 4 L S h := Rg rfl
set_option maxRecDepth 100000 in
theorem e149_46 {L : Lo} {S : List Value} {h : Hp} {x0 x1 : Option Value} {v : Int32} : Run 149 46 (x0 :: x1 :: some (.int v) :: L) S h = Run 149 47 (x0 :: x1 :: some (.int v) :: L) (.int v :: S) h := Rg rfl
set_option maxRecDepth 100000 in
theorem e149_47 {L : Lo} {h : Hp} {x : Int32} : Run 149 47 L [.int x] h = some (.inl (some (.int x)), h) := Rd (if_pos (c := narrow .int (.int x) = .int x) rfl)
set_option maxRecDepth 100000 in
theorem e150_0 {L : Lo} {S : List Value} {h : Hp} : Run 150 0 L S h = Run 150 1 L (.int 0 :: S) h := Rg rfl
set_option maxRecDepth 100000 in
theorem e150_1 {L : Lo} {S : List Value} {h : Hp} {x0 x1 : Option Value} {y : Option Value} {v : Int32} : Run 150 1 (x0 :: x1 :: y :: L) (.int v :: S) h = Run 150 2 (x0 :: ck x1 :: some (.int v) :: L) S h := Rg rfl
set_option maxRecDepth 100000 in
theorem e150_2 {L : Lo} {S : List Value} {h : Hp} : Run 150 2 L S h = Run 150 3 L (.int (-1) :: S) h := Rg rfl
set_option maxRecDepth 100000 in
theorem e150_3 {L : Lo} {S : List Value} {h : Hp} {x0 x1 x2 : Option Value} {y : Option Value} {v : Int32} : Run 150 3 (x0 :: x1 :: x2 :: y :: L) (.int v :: S) h = Run 150 4 (x0 :: x1 :: ck x2 :: some (.int v) :: L) S h := Rg rfl
set_option maxRecDepth 100000 in
theorem e150_4 {L : Lo} {S : List Value} {h : Hp} : Run 150 4 L S h = Run 150 5 L (.int 0 :: S) h := Rg rfl
set_option maxRecDepth 100000 in
theorem e150_5 {L : Lo} {S : List Value} {h : Hp} {x0 x1 x2 x3 : Option Value} {y : Option Value} {v : Int32} : Run 150 5 (x0 :: x1 :: x2 :: x3 :: y :: L) (.int v :: S) h = Run 150 7 (x0 :: x1 :: x2 :: ck x3 :: some (.int v) :: L) S h := Rg rfl
set_option maxRecDepth 100000 in
theorem e150_7 {L : Lo} {S : List Value} {h : Hp} {x0 x1 x2 x3 : Option Value} {v : Int32} : Run 150 7 (x0 :: x1 :: x2 :: x3 :: some (.int v) :: L) S h = Run 150 9 (x0 :: x1 :: x2 :: x3 :: some (.int v) :: L) (.int v :: S) h := Rg rfl
set_option maxRecDepth 100000 in
theorem e150_9 {L : Lo} {S : List Value} {h : Hp} {v : Nat} : Run 150 9 (some (.ref v) :: L) S h = Run 150 10 (some (.ref v) :: L) (.ref v :: S) h := Rg rfl
set_option maxRecDepth 100000 in
theorem e150_10 {L : Lo} {h : Hp} {a1 : Nat} {a0 : Int32} (hO : isO h a1 9 = true) : Run 150 10 L [.ref a1, .int a0] h = (Run 122 0 [some (.ref a1)] [] h).bind fun o => aft 150 10 13 L [.int a0] o := Rcv (c := 122) (As := []) (S' := [.int a0]) (pc' := 13) 9 rfl hO
set_option maxRecDepth 100000 in
theorem e150_13 {L : Lo} {S : List Value} {h : Hp} {x z : Int32} : Run 150 13 L (.int z :: .int x :: S) h = if z ≤ x then Run 150 56 L S h else Run 150 16 L S h := Rbr (c := cnd .ge x z = true) (off := 43) rfl rfl cnd_ge
set_option maxRecDepth 100000 in
theorem e150_16 {L : Lo} {S : List Value} {h : Hp} {x0 x1 : Option Value} {v : Int32} : Run 150 16 (x0 :: x1 :: some (.int v) :: L) S h = Run 150 17 (x0 :: x1 :: some (.int v) :: L) (.int v :: S) h := Rg rfl
set_option maxRecDepth 100000 in
theorem e150_17 {L : Lo} {S : List Value} {h : Hp} {v : Nat} : Run 150 17 (some (.ref v) :: L) S h = Run 150 18 (some (.ref v) :: L) (.ref v :: S) h := Rg rfl
set_option maxRecDepth 100000 in
theorem e150_18 {L : Lo} {S : List Value} {h : Hp} {b : Nat} : Run 150 18 L (.ref b :: S) h = (gf h 9 0 b).bind fun v => Run 150 21 L (v :: S) h := Rb rfl fun _ => rfl
set_option maxRecDepth 100000 in
theorem e150_21 {L : Lo} {S : List Value} {h : Hp} : Run 150 21 L S h = Run 150 23 L (.int 126 :: S) h := Rg rfl
set_option maxRecDepth 100000 in
theorem e150_23 {L : Lo} {S : List Value} {h : Hp} {x0 x1 x2 x3 : Option Value} {v : Int32} : Run 150 23 (x0 :: x1 :: x2 :: x3 :: some (.int v) :: L) S h = Run 150 25 (x0 :: x1 :: x2 :: x3 :: some (.int v) :: L) (.int v :: S) h := Rg rfl
set_option maxRecDepth 100000 in
theorem e150_25 {L : Lo} {S : List Value} {h : Hp} {x z : Int32} : Run 150 25 L (.int z :: .int x :: S) h = Run 150 26 L (.int (x + z) :: S) h := Rg rfl
set_option maxRecDepth 100000 in
theorem e150_26 {L : Lo} {S : List Value} {h : Hp} {i : Int32} {b : Nat} : Run 150 26 L (.int i :: .ref b :: S) h = (gaI h b i).bind fun v => Run 150 27 L (.int v :: S) h := Rb rfl fun _ => rfl
set_option maxRecDepth 100000 in
theorem e150_27 {L : Lo} {S : List Value} {h : Hp} {x z : Int32} : Run 150 27 L (.int z :: .int x :: S) h = Run 150 28 L (.int (x + z) :: S) h := Rg rfl
set_option maxRecDepth 100000 in
theorem e150_28 {L : Lo} {S : List Value} {h : Hp} {x0 x1 : Option Value} {y : Option Value} {v : Int32} : Run 150 28 (x0 :: x1 :: y :: L) (.int v :: S) h = Run 150 29 (x0 :: ck x1 :: some (.int v) :: L) S h := Rg rfl
set_option maxRecDepth 100000 in
theorem e150_29 {L : Lo} {S : List Value} {h : Hp} {v : Nat} : Run 150 29 (some (.ref v) :: L) S h = Run 150 30 (some (.ref v) :: L) (.ref v :: S) h := Rg rfl
set_option maxRecDepth 100000 in
theorem e150_30 {L : Lo} {S : List Value} {h : Hp} {b : Nat} : Run 150 30 L (.ref b :: S) h = (gf h 9 0 b).bind fun v => Run 150 33 L (v :: S) h := Rb rfl fun _ => rfl
set_option maxRecDepth 100000 in
theorem e150_33 {L : Lo} {S : List Value} {h : Hp} : Run 150 33 L S h = Run 150 35 L (.int 126 :: S) h := Rg rfl
set_option maxRecDepth 100000 in
theorem e150_35 {L : Lo} {S : List Value} {h : Hp} {x0 x1 x2 x3 : Option Value} {v : Int32} : Run 150 35 (x0 :: x1 :: x2 :: x3 :: some (.int v) :: L) S h = Run 150 37 (x0 :: x1 :: x2 :: x3 :: some (.int v) :: L) (.int v :: S) h := Rg rfl
set_option maxRecDepth 100000 in
theorem e150_37 {L : Lo} {S : List Value} {h : Hp} {x z : Int32} : Run 150 37 L (.int z :: .int x :: S) h = Run 150 38 L (.int (x + z) :: S) h := Rg rfl
set_option maxRecDepth 100000 in
theorem e150_38 {L : Lo} {S : List Value} {h : Hp} {i : Int32} {b : Nat} : Run 150 38 L (.int i :: .ref b :: S) h = (gaI h b i).bind fun v => Run 150 39 L (.int v :: S) h := Rb rfl fun _ => rfl
set_option maxRecDepth 100000 in
theorem e150_39 {L : Lo} {S : List Value} {h : Hp} : Run 150 39 L S h = Run 150 40 L (.int 1 :: S) h := Rg rfl
set_option maxRecDepth 100000 in
theorem e150_40 {L : Lo} {S : List Value} {h : Hp} {x z : Int32} : Run 150 40 L (.int z :: .int x :: S) h = if x = z then Run 150 43 L S h else Run 150 48 L S h := RbrN (c := cnd .ne x z = true) (off := 8) rfl rfl cnd_ne
set_option maxRecDepth 100000 in
theorem e150_43 {L : Lo} {S : List Value} {h : Hp} {x0 x1 x2 x3 : Option Value} {v : Int32} : Run 150 43 (x0 :: x1 :: x2 :: x3 :: some (.int v) :: L) S h = Run 150 45 (x0 :: x1 :: x2 :: x3 :: some (.int v) :: L) (.int v :: S) h := Rg rfl
set_option maxRecDepth 100000 in
theorem e150_45 {L : Lo} {S : List Value} {h : Hp} : Run 150 45 L S h = Run 150 49 L S h := Rg rfl
set_option maxRecDepth 100000 in
theorem e150_48 {L : Lo} {S : List Value} {h : Hp} {x0 x1 x2 : Option Value} {v : Int32} : Run 150 48 (x0 :: x1 :: x2 :: some (.int v) :: L) S h = Run 150 49 (x0 :: x1 :: x2 :: some (.int v) :: L) (.int v :: S) h := Rg rfl
set_option maxRecDepth 100000 in
theorem e150_49 {L : Lo} {S : List Value} {h : Hp} {x0 x1 x2 : Option Value} {y : Option Value} {v : Int32} : Run 150 49 (x0 :: x1 :: x2 :: y :: L) (.int v :: S) h = Run 150 50 (x0 :: x1 :: ck x2 :: some (.int v) :: L) S h := Rg rfl
set_option maxRecDepth 100000 in
theorem e150_50 {L : Lo} {S : List Value} {h : Hp} {x0 x1 x2 x3 : Option Value} {v : Int32} : Run 150 50 (x0 :: x1 :: x2 :: x3 :: some (.int v) :: L) S h = Run 150 53 (x0 :: x1 :: x2 :: x3 :: some (.int (v + 1)) :: L) S h := Rg rfl
set_option maxRecDepth 100000 in
theorem e150_53 {L : Lo} {S : List Value} {h : Hp} : Run 150 53 L S h = Run 150 7 L S h := Rg rfl
set_option maxRecDepth 100000 in
theorem e150_56 {L : Lo} {S : List Value} {h : Hp} {x0 : Option Value} {v : Int32} : Run 150 56 (x0 :: some (.int v) :: L) S h = Run 150 57 (x0 :: some (.int v) :: L) (.int v :: S) h := Rg rfl
set_option maxRecDepth 100000 in
theorem e150_57 {L : Lo} {S : List Value} {h : Hp} {x : Int32} : Run 150 57 L (.int x :: S) h = if x = 0 then Run 150 64 L S h else Run 150 60 L S h := Rbr (c := cnd .eq x 0 = true) (off := 7) rfl rfl cnd_eq
set_option maxRecDepth 100000 in
theorem e150_60 {L : Lo} {S : List Value} {h : Hp} {x0 x1 x2 : Option Value} {v : Int32} : Run 150 60 (x0 :: x1 :: x2 :: some (.int v) :: L) S h = Run 150 61 (x0 :: x1 :: x2 :: some (.int v) :: L) (.int v :: S) h := Rg rfl
set_option maxRecDepth 100000 in
theorem e150_61 {L : Lo} {S : List Value} {h : Hp} : Run 150 61 L S h = Run 150 65 L S h := Rg rfl
set_option maxRecDepth 100000 in
theorem e150_64 {L : Lo} {S : List Value} {h : Hp} {x0 x1 : Option Value} {v : Int32} : Run 150 64 (x0 :: x1 :: some (.int v) :: L) S h = Run 150 65 (x0 :: x1 :: some (.int v) :: L) (.int v :: S) h := Rg rfl
set_option maxRecDepth 100000 in
theorem e150_65 {L : Lo} {h : Hp} {x : Int32} : Run 150 65 L [.int x] h = some (.inl (some (.int x)), h) := Rd (if_pos (c := narrow .int (.int x) = .int x) rfl)
set_option maxRecDepth 100000 in
theorem e151_0 {L : Lo} {S : List Value} {h : Hp} {x0 : Option Value} {v : Int32} : Run 151 0 (x0 :: some (.int v) :: L) S h = Run 151 1 (x0 :: some (.int v) :: L) (.int v :: S) h := Rg rfl
set_option maxRecDepth 100000 in
theorem e151_1 {L : Lo} {S : List Value} {h : Hp} : Run 151 1 L S h = Run 151 3 L (.int 6 :: S) h := Rg rfl
set_option maxRecDepth 100000 in
theorem e151_3 {L : Lo} {S : List Value} {h : Hp} {x z : Int32} : Run 151 3 L (.int z :: .int x :: S) h = if z ≤ x then Run 151 15 L S h else Run 151 6 L S h := Rbr (c := cnd .ge x z = true) (off := 12) rfl rfl cnd_ge
set_option maxRecDepth 100000 in
theorem e151_6 {L : Lo} {S : List Value} {h : Hp} {v : Nat} : Run 151 6 (some (.ref v) :: L) S h = Run 151 7 (some (.ref v) :: L) (.ref v :: S) h := Rg rfl
set_option maxRecDepth 100000 in
theorem e151_7 {L : Lo} {S : List Value} {h : Hp} {b : Nat} : Run 151 7 L (.ref b :: S) h = (gf h 9 0 b).bind fun v => Run 151 10 L (v :: S) h := Rb rfl fun _ => rfl
set_option maxRecDepth 100000 in
theorem e151_10 {L : Lo} {S : List Value} {h : Hp} {x0 : Option Value} {v : Int32} : Run 151 10 (x0 :: some (.int v) :: L) S h = Run 151 11 (x0 :: some (.int v) :: L) (.int v :: S) h := Rg rfl
set_option maxRecDepth 100000 in
theorem e151_11 {L : Lo} {S : List Value} {h : Hp} {i : Int32} {b : Nat} : Run 151 11 L (.int i :: .ref b :: S) h = (gaI h b i).bind fun v => Run 151 12 L (.int v :: S) h := Rb rfl fun _ => rfl
set_option maxRecDepth 100000 in
theorem e151_12 {L : Lo} {S : List Value} {h : Hp} : Run 151 12 L S h = Run 151 47 L S h := Rg rfl
set_option maxRecDepth 100000 in
theorem e151_15 {L : Lo} {S : List Value} {h : Hp} {x0 : Option Value} {v : Int32} : Run 151 15 (x0 :: some (.int v) :: L) S h = Run 151 16 (x0 :: some (.int v) :: L) (.int v :: S) h := Rg rfl
set_option maxRecDepth 100000 in
theorem e151_16 {L : Lo} {S : List Value} {h : Hp} : Run 151 16 L S h = Run 151 18 L (.int 8 :: S) h := Rg rfl
set_option maxRecDepth 100000 in
theorem e151_18 {L : Lo} {S : List Value} {h : Hp} {x z : Int32} : Run 151 18 L (.int z :: .int x :: S) h = if z ≤ x then Run 151 32 L S h else Run 151 21 L S h := Rbr (c := cnd .ge x z = true) (off := 14) rfl rfl cnd_ge
set_option maxRecDepth 100000 in
theorem e151_21 {L : Lo} {S : List Value} {h : Hp} {v : Nat} : Run 151 21 (some (.ref v) :: L) S h = Run 151 22 (some (.ref v) :: L) (.ref v :: S) h := Rg rfl
set_option maxRecDepth 100000 in
theorem e151_22 {L : Lo} {S : List Value} {h : Hp} {x0 : Option Value} {v : Int32} : Run 151 22 (x0 :: some (.int v) :: L) S h = Run 151 23 (x0 :: some (.int v) :: L) (.int v :: S) h := Rg rfl
set_option maxRecDepth 100000 in
theorem e151_23 {L : Lo} {S : List Value} {h : Hp} : Run 151 23 L S h = Run 151 25 L (.int 6 :: S) h := Rg rfl
set_option maxRecDepth 100000 in
theorem e151_25 {L : Lo} {S : List Value} {h : Hp} {x z : Int32} : Run 151 25 L (.int z :: .int x :: S) h = Run 151 26 L (.int (x - z) :: S) h := Rg rfl
set_option maxRecDepth 100000 in
theorem e151_26 {L : Lo} {h : Hp} {a1 : Int32} {a0 : Nat} (hO : isO h a0 9 = true) : Run 151 26 L [.int a1, .ref a0] h = (Run 149 0 [some (.ref a0), some (.int a1), none, none] [] h).bind fun o => aft 151 26 29 L [] o := Rcv (c := 149) (As := [.int a1]) (S' := []) (pc' := 29) 9 rfl hO
set_option maxRecDepth 100000 in
theorem e151_29 {L : Lo} {S : List Value} {h : Hp} : Run 151 29 L S h = Run 151 47 L S h := Rg rfl
set_option maxRecDepth 100000 in
theorem e151_32 {L : Lo} {S : List Value} {h : Hp} {v : Nat} : Run 151 32 (some (.ref v) :: L) S h = Run 151 33 (some (.ref v) :: L) (.ref v :: S) h := Rg rfl
set_option maxRecDepth 100000 in
theorem e151_33 {L : Lo} {S : List Value} {h : Hp} {x0 : Option Value} {v : Int32} : Run 151 33 (x0 :: some (.int v) :: L) S h = Run 151 34 (x0 :: some (.int v) :: L) (.int v :: S) h := Rg rfl
set_option maxRecDepth 100000 in
theorem e151_34 {L : Lo} {S : List Value} {h : Hp} : Run 151 34 L S h = Run 151 36 L (.int 9 :: S) h := Rg rfl
set_option maxRecDepth 100000 in
theorem e151_36 {L : Lo} {S : List Value} {h : Hp} {x z : Int32} : Run 151 36 L (.int z :: .int x :: S) h = if x = z then Run 151 39 L S h else Run 151 43 L S h := RbrN (c := cnd .ne x z = true) (off := 7) rfl rfl cnd_ne
set_option maxRecDepth 100000 in
theorem e151_39 {L : Lo} {S : List Value} {h : Hp} : Run 151 39 L S h = Run 151 40 L (.int 1 :: S) h := Rg rfl
set_option maxRecDepth 100000 in
theorem e151_40 {L : Lo} {S : List Value} {h : Hp} : Run 151 40 L S h = Run 151 44 L S h := Rg rfl
set_option maxRecDepth 100000 in
theorem e151_43 {L : Lo} {S : List Value} {h : Hp} : Run 151 43 L S h = Run 151 44 L (.int 0 :: S) h := Rg rfl
set_option maxRecDepth 100000 in
theorem e151_44 {L : Lo} {h : Hp} {a1 : Int32} {a0 : Nat} (hO : isO h a0 9 = true) : Run 151 44 L [.int a1, .ref a0] h = (Run 150 0 [some (.ref a0), some (.int a1), none, none, none] [] h).bind fun o => aft 151 44 47 L [] o := Rcv (c := 150) (As := [.int a1]) (S' := []) (pc' := 47) 9 rfl hO
set_option maxRecDepth 100000 in
theorem e151_47 {L : Lo} {h : Hp} {x : Int32} : Run 151 47 L [.int x] h = some (.inl (some (.int x)), h) := Rd (if_pos (c := narrow .int (.int x) = .int x) rfl)
set_option maxRecDepth 100000 in
theorem e152_0 {L : Lo} {S : List Value} {h : Hp} {v : Nat} : Run 152 0 (some (.ref v) :: L) S h = Run 152 1 (some (.ref v) :: L) (.ref v :: S) h := Rg rfl
set_option maxRecDepth 100000 in
theorem e152_1 {L : Lo} {S : List Value} {h : Hp} {x0 : Option Value} {v : Int32} : Run 152 1 (x0 :: some (.int v) :: L) S h = Run 152 2 (x0 :: some (.int v) :: L) (.int v :: S) h := Rg rfl
set_option maxRecDepth 100000 in
theorem e152_2 {L : Lo} {S : List Value} {h : Hp} : Run 152 2 L S h = Run 152 3 L (.int 0 :: S) h := Rg rfl
set_option maxRecDepth 100000 in
theorem e152_3 {L : Lo} {S : List Value} {h : Hp} : Run 152 3 L S h = Run 152 5 L (.int 9 :: S) h := Rg rfl
set_option maxRecDepth 100000 in
theorem e152_5 {L : Lo} {h : Hp} {a3 : Int32} {a2 : Int32} {a1 : Int32} {a0 : Nat} : Run 152 5 L [.int a3, .int a2, .int a1, .ref a0] h = (Run 118 0 [some (.int a1), some (.int a2), some (.int a3)] [] h).bind fun o => aft 152 5 8 L [.ref a0] o := Rc (c := 118) (As := [.int a1, .int a2, .int a3]) (S' := [.ref a0]) (pc' := 8) rfl
set_option maxRecDepth 100000 in
theorem e152_8 {L : Lo} {S : List Value} {h : Hp} {x : Int32} : Run 152 8 L (.int x :: S) h = if x = 0 then Run 152 15 L S h else Run 152 11 L S h := Rbr (c := cnd .eq x 0 = true) (off := 7) rfl rfl cnd_eq
set_option maxRecDepth 100000 in
theorem e152_11 {L : Lo} {S : List Value} {h : Hp} : Run 152 11 L S h = Run 152 12 L (.int 0 :: S) h := Rg rfl
set_option maxRecDepth 100000 in
theorem e152_12 {L : Lo} {S : List Value} {h : Hp} : Run 152 12 L S h = Run 152 16 L S h := Rg rfl
set_option maxRecDepth 100000 in
theorem e152_15 {L : Lo} {S : List Value} {h : Hp} : Run 152 15 L S h = Run 152 16 L (.int 1 :: S) h := Rg rfl
set_option maxRecDepth 100000 in
theorem e152_16 {L : Lo} {S : List Value} {h : Hp} {b : Nat} {v : Value} : Run 152 16 L (v :: .ref b :: S) h = (pf h 9 5 b v).bind fun h1 => Run 152 19 L S h1 := Rb rfl fun _ => rfl
set_option maxRecDepth 100000 in
theorem e152_19 {L : Lo} {S : List Value} {h : Hp} {v : Nat} : Run 152 19 (some (.ref v) :: L) S h = Run 152 20 (some (.ref v) :: L) (.ref v :: S) h := Rg rfl
set_option maxRecDepth 100000 in
theorem e152_20 {L : Lo} {S : List Value} {h : Hp} {b : Nat} : Run 152 20 L (.ref b :: S) h = (gf h 9 5 b).bind fun v => Run 152 23 L (v :: S) h := Rb rfl fun _ => rfl
set_option maxRecDepth 100000 in
theorem e152_23 {L : Lo} {S : List Value} {h : Hp} {x : Int32} : Run 152 23 L (.int x :: S) h = if x = 0 then Run 152 30 L S h else Run 152 26 L S h := Rbr (c := cnd .eq x 0 = true) (off := 7) rfl rfl cnd_eq
set_option maxRecDepth 100000 in
theorem e152_26 {L : Lo} {S : List Value} {h : Hp} : Run 152 26 L S h = Run 152 27 L (.int 0 :: S) h := Rg rfl
set_option maxRecDepth 100000 in
theorem e152_27 {L : Lo} {S : List Value} {h : Hp} : Run 152 27 L S h = Run 152 35 L S h := Rg rfl
set_option maxRecDepth 100000 in
theorem e152_30 {L : Lo} {S : List Value} {h : Hp} {v : Nat} : Run 152 30 (some (.ref v) :: L) S h = Run 152 31 (some (.ref v) :: L) (.ref v :: S) h := Rg rfl
set_option maxRecDepth 100000 in
theorem e152_31 {L : Lo} {S : List Value} {h : Hp} {x0 : Option Value} {v : Int32} : Run 152 31 (x0 :: some (.int v) :: L) S h = Run 152 32 (x0 :: some (.int v) :: L) (.int v :: S) h := Rg rfl
set_option maxRecDepth 100000 in
theorem e152_32 {L : Lo} {h : Hp} {a1 : Int32} {a0 : Nat} (hO : isO h a0 9 = true) : Run 152 32 L [.int a1, .ref a0] h = (Run 151 0 [some (.ref a0), some (.int a1)] [] h).bind fun o => aft 152 32 35 L [] o := Rcv (c := 151) (As := [.int a1]) (S' := []) (pc' := 35) 9 rfl hO
set_option maxRecDepth 100000 in
theorem e152_35 {L : Lo} {h : Hp} {x : Int32} : Run 152 35 L [.int x] h = some (.inl (some (.int x)), h) := Rd (if_pos (c := narrow .int (.int x) = .int x) rfl)
set_option maxRecDepth 100000 in
theorem e153_0 {L : Lo} {S : List Value} {h : Hp} {x0 x1 : Option Value} {v : Int32} : Run 153 0 (x0 :: x1 :: some (.int v) :: L) S h = Run 153 1 (x0 :: x1 :: some (.int v) :: L) (.int v :: S) h := Rg rfl
set_option maxRecDepth 100000 in
theorem e153_1_1 {L : Lo} {S : List Value} {h : Hp} : Run 153 1 L (.int 1 :: S) h = Run 153 44 L S h := Rg rfl
set_option maxRecDepth 100000 in
theorem e153_1_12 {L : Lo} {S : List Value} {h : Hp} : Run 153 1 L (.int 12 :: S) h = Run 153 63 L S h := Rg rfl
set_option maxRecDepth 100000 in
theorem e153_1_13 {L : Lo} {S : List Value} {h : Hp} : Run 153 1 L (.int 13 :: S) h = Run 153 69 L S h := Rg rfl
set_option maxRecDepth 100000 in
theorem e153_1_14 {L : Lo} {S : List Value} {h : Hp} : Run 153 1 L (.int 14 :: S) h = Run 153 85 L S h := Rg rfl
theorem e153_1_d {L : Lo} {S : List Value} {h : Hp} {x : Int32} (hx : Op.lookupswitch.offset [(1, 43), (12, 62), (13, 68), (14, 84)] 92 x.toInt = 92) : Run 153 1 L (.int x :: S) h = Run 153 93 L S h := Rg (by show (tg 1 (Op.lookupswitch.offset [(1, 43), (12, 62), (13, 68), (14, 84)] 92 x.toInt)).bind _ = _; rw [hx]; rfl)
set_option maxRecDepth 100000 in
theorem e153_44 {L : Lo} {S : List Value} {h : Hp} {v : Nat} : Run 153 44 (some (.ref v) :: L) S h = Run 153 45 (some (.ref v) :: L) (.ref v :: S) h := Rg rfl
set_option maxRecDepth 100000 in
theorem e153_45 {L : Lo} {S : List Value} {h : Hp} {x0 : Option Value} {v : Int32} : Run 153 45 (x0 :: some (.int v) :: L) S h = Run 153 46 (x0 :: some (.int v) :: L) (.int v :: S) h := Rg rfl
set_option maxRecDepth 100000 in
theorem e153_46 {L : Lo} {h : Hp} {a1 : Int32} {a0 : Nat} (hO : isO h a0 9 = true) : Run 153 46 L [.int a1, .ref a0] h = (Run 127 0 [some (.ref a0), some (.int a1)] [] h).bind fun o => aft 153 46 49 L [] o := Rcv (c := 127) (As := [.int a1]) (S' := []) (pc' := 49) 9 rfl hO
set_option maxRecDepth 100000 in
theorem e153_49 {L : Lo} {S : List Value} {h : Hp} {x : Int32} : Run 153 49 L (.int x :: S) h = if x = 0 then Run 153 61 L S h else Run 153 52 L S h := Rbr (c := cnd .eq x 0 = true) (off := 12) rfl rfl cnd_eq
set_option maxRecDepth 100000 in
theorem e153_52 {L : Lo} {S : List Value} {h : Hp} {v : Nat} : Run 153 52 (some (.ref v) :: L) S h = Run 153 53 (some (.ref v) :: L) (.ref v :: S) h := Rg rfl
set_option maxRecDepth 100000 in
theorem e153_53 {L : Lo} {S : List Value} {h : Hp} {x0 : Option Value} {v : Int32} : Run 153 53 (x0 :: some (.int v) :: L) S h = Run 153 54 (x0 :: some (.int v) :: L) (.int v :: S) h := Rg rfl
set_option maxRecDepth 100000 in
theorem e153_54 {L : Lo} {S : List Value} {h : Hp} : Run 153 54 L S h = Run 153 55 L (.int 1 :: S) h := Rg rfl
set_option maxRecDepth 100000 in
theorem e153_55 {L : Lo} {h : Hp} {a2 : Int32} {a1 : Int32} {a0 : Nat} (hO : isO h a0 9 = true) : Run 153 55 L [.int a2, .int a1, .ref a0] h = (Run 125 0 [some (.ref a0), some (.int a1), some (.int a2)] [] h).bind fun o => aft 153 55 58 L [] o := Rcv (c := 125) (As := [.int a1, .int a2]) (S' := []) (pc' := 58) 9 rfl hO
set_option maxRecDepth 100000 in
theorem e153_58 {L : Lo} {S : List Value} {h : Hp} : Run 153 58 L S h = Run 153 62 L S h := Rg rfl
set_option maxRecDepth 100000 in
theorem e153_61 {L : Lo} {S : List Value} {h : Hp} : Run 153 61 L S h = Run 153 62 L (.int (-1) :: S) h := Rg rfl
set_option maxRecDepth 100000 in
theorem e153_62 {L : Lo} {h : Hp} {x : Int32} : Run 153 62 L [.int x] h = some (.inl (some (.int x)), h) := Rd (if_pos (c := narrow .int (.int x) = .int x) rfl)
set_option maxRecDepth 100000 in
theorem e153_63 {L : Lo} {S : List Value} {h : Hp} {v : Nat} : Run 153 63 (some (.ref v) :: L) S h = Run 153 64 (some (.ref v) :: L) (.ref v :: S) h := Rg rfl
set_option maxRecDepth 100000 in
theorem e153_64 {L : Lo} {S : List Value} {h : Hp} {x0 : Option Value} {v : Int32} : Run 153 64 (x0 :: some (.int v) :: L) S h = Run 153 65 (x0 :: some (.int v) :: L) (.int v :: S) h := Rg rfl
set_option maxRecDepth 100000 in
theorem e153_65 {L : Lo} {h : Hp} {a1 : Int32} {a0 : Nat} (hO : isO h a0 9 = true) : Run 153 65 L [.int a1, .ref a0] h = (Run 145 0 [some (.ref a0), some (.int a1)] [] h).bind fun o => aft 153 65 68 L [] o := Rcv (c := 145) (As := [.int a1]) (S' := []) (pc' := 68) 9 rfl hO
set_option maxRecDepth 100000 in
theorem e153_68 {L : Lo} {h : Hp} {x : Int32} : Run 153 68 L [.int x] h = some (.inl (some (.int x)), h) := Rd (if_pos (c := narrow .int (.int x) = .int x) rfl)
set_option maxRecDepth 100000 in
theorem e153_69 {L : Lo} {S : List Value} {h : Hp} {v : Nat} : Run 153 69 (some (.ref v) :: L) S h = Run 153 70 (some (.ref v) :: L) (.ref v :: S) h := Rg rfl
set_option maxRecDepth 100000 in
theorem e153_70 {L : Lo} {S : List Value} {h : Hp} {x0 : Option Value} {v : Int32} : Run 153 70 (x0 :: some (.int v) :: L) S h = Run 153 71 (x0 :: some (.int v) :: L) (.int v :: S) h := Rg rfl
set_option maxRecDepth 100000 in
theorem e153_71 {L : Lo} {S : List Value} {h : Hp} : Run 153 71 L S h = Run 153 72 L (.int 2 :: S) h := Rg rfl
set_option maxRecDepth 100000 in
theorem e153_72 {L : Lo} {h : Hp} {a2 : Int32} {a1 : Int32} {a0 : Nat} (hO : isO h a0 9 = true) : Run 153 72 L [.int a2, .int a1, .ref a0] h = (Run 125 0 [some (.ref a0), some (.int a1), some (.int a2)] [] h).bind fun o => aft 153 72 75 L [] o := Rcv (c := 125) (As := [.int a1, .int a2]) (S' := []) (pc' := 75) 9 rfl hO
set_option maxRecDepth 100000 in
theorem e153_75 {L : Lo} {S : List Value} {h : Hp} {v : Nat} : Run 153 75 (some (.ref v) :: L) S h = Run 153 76 (some (.ref v) :: L) (.ref v :: S) h := Rg rfl
set_option maxRecDepth 100000 in
theorem e153_76 {L : Lo} {S : List Value} {h : Hp} {b : Nat} : Run 153 76 L (.ref b :: S) h = (gf h 9 0 b).bind fun v => Run 153 79 L (v :: S) h := Rb rfl fun _ => rfl
set_option maxRecDepth 100000 in
theorem e153_79 {L : Lo} {S : List Value} {h : Hp} : Run 153 79 L S h = Run 153 80 L (.int 2 :: S) h := Rg rfl
set_option maxRecDepth 100000 in
theorem e153_80 {L : Lo} {S : List Value} {h : Hp} {i : Int32} {b : Nat} : Run 153 80 L (.int i :: .ref b :: S) h = (gaI h b i).bind fun v => Run 153 81 L (.int v :: S) h := Rb rfl fun _ => rfl
set_option maxRecDepth 100000 in
theorem e153_81 {L : Lo} {h : Hp} {a1 : Int32} {a0 : Int32} : Run 153 81 L [.int a1, .int a0] h = (Run 143 0 [some (.int a0), some (.int a1), none] [] h).bind fun o => aft 153 81 84 L [] o := Rc (c := 143) (As := [.int a0, .int a1]) (S' := []) (pc' := 84) rfl
set_option maxRecDepth 100000 in
theorem e153_84 {L : Lo} {h : Hp} {x : Int32} : Run 153 84 L [.int x] h = some (.inl (some (.int x)), h) := Rd (if_pos (c := narrow .int (.int x) = .int x) rfl)
set_option maxRecDepth 100000 in
theorem e153_85 {L : Lo} {S : List Value} {h : Hp} {v : Nat} : Run 153 85 (some (.ref v) :: L) S h = Run 153 86 (some (.ref v) :: L) (.ref v :: S) h := Rg rfl
set_option maxRecDepth 100000 in
theorem e153_86 {L : Lo} {S : List Value} {h : Hp} {x0 : Option Value} {v : Int32} : Run 153 86 (x0 :: some (.int v) :: L) S h = Run 153 87 (x0 :: some (.int v) :: L) (.int v :: S) h := Rg rfl
set_option maxRecDepth 100000 in
theorem e153_87 {L : Lo} {S : List Value} {h : Hp} : Run 153 87 L S h = Run 153 89 L (.int 14 :: S) h := Rg rfl
set_option maxRecDepth 100000 in
theorem e153_89 {L : Lo} {h : Hp} {a2 : Int32} {a1 : Int32} {a0 : Nat} (hO : isO h a0 9 = true) : Run 153 89 L [.int a2, .int a1, .ref a0] h = (Run 125 0 [some (.ref a0), some (.int a1), some (.int a2)] [] h).bind fun o => aft 153 89 92 L [] o := Rcv (c := 125) (As := [.int a1, .int a2]) (S' := []) (pc' := 92) 9 rfl hO
set_option maxRecDepth 100000 in
theorem e153_92 {L : Lo} {h : Hp} {x : Int32} : Run 153 92 L [.int x] h = some (.inl (some (.int x)), h) := Rd (if_pos (c := narrow .int (.int x) = .int x) rfl)
set_option maxRecDepth 100000 in
theorem e153_93 {L : Lo} {S : List Value} {h : Hp} {v : Nat} : Run 153 93 (some (.ref v) :: L) S h = Run 153 94 (some (.ref v) :: L) (.ref v :: S) h := Rg rfl
set_option maxRecDepth 100000 in
theorem e153_94 {L : Lo} {S : List Value} {h : Hp} {x0 : Option Value} {v : Int32} : Run 153 94 (x0 :: some (.int v) :: L) S h = Run 153 95 (x0 :: some (.int v) :: L) (.int v :: S) h := Rg rfl
set_option maxRecDepth 100000 in
theorem e153_95 {L : Lo} {S : List Value} {h : Hp} {x0 x1 : Option Value} {v : Int32} : Run 153 95 (x0 :: x1 :: some (.int v) :: L) S h = Run 153 96 (x0 :: x1 :: some (.int v) :: L) (.int v :: S) h := Rg rfl
set_option maxRecDepth 100000 in
theorem e153_96 {L : Lo} {h : Hp} {a2 : Int32} {a1 : Int32} {a0 : Nat} (hO : isO h a0 9 = true) : Run 153 96 L [.int a2, .int a1, .ref a0] h = (Run 125 0 [some (.ref a0), some (.int a1), some (.int a2)] [] h).bind fun o => aft 153 96 99 L [] o := Rcv (c := 125) (As := [.int a1, .int a2]) (S' := []) (pc' := 99) 9 rfl hO
set_option maxRecDepth 100000 in
theorem e153_99 {L : Lo} {h : Hp} {x : Int32} : Run 153 99 L [.int x] h = some (.inl (some (.int x)), h) := Rd (if_pos (c := narrow .int (.int x) = .int x) rfl)
set_option maxRecDepth 100000 in
theorem e154_0 {L : Lo} {S : List Value} {h : Hp} {v : Nat} : Run 154 0 (some (.ref v) :: L) S h = Run 154 1 (some (.ref v) :: L) (.ref v :: S) h := Rg rfl
set_option maxRecDepth 100000 in
theorem e154_1 {L : Lo} {S : List Value} {h : Hp} {v : Nat} : Run 154 1 (some (.ref v) :: L) S h = Run 154 2 (some (.ref v) :: L) (.ref v :: S) h := Rg rfl
set_option maxRecDepth 100000 in
theorem e154_2 {L : Lo} {S : List Value} {h : Hp} {x0 : Option Value} {v : Int32} : Run 154 2 (x0 :: some (.int v) :: L) S h = Run 154 3 (x0 :: some (.int v) :: L) (.int v :: S) h := Rg rfl
set_option maxRecDepth 100000 in
theorem e154_3 {L : Lo} {h : Hp} {a2 : Int32} {a1 : Nat} {a0 : Nat} (hO : isO h a1 9 = true) : Run 154 3 L [.int a2, .ref a1, .ref a0] h = (Run 124 0 [some (.ref a1), some (.int a2)] [] h).bind fun o => aft 154 3 6 L [.ref a0] o := Rcv (c := 124) (As := [.int a2]) (S' := [.ref a0]) (pc' := 6) 9 rfl hO
set_option maxRecDepth 100000 in
theorem e154_6 {L : Lo} {S : List Value} {h : Hp} {x : Int32} : Run 154 6 L (.int x :: S) h = if x = 0 then Run 154 9 L S h else Run 154 13 L S h := RbrN (c := cnd .ne x 0 = true) (off := 7) rfl rfl cnd_ne
set_option maxRecDepth 100000 in
theorem e154_9 {L : Lo} {S : List Value} {h : Hp} : Run 154 9 L S h = Run 154 10 L (.int 1 :: S) h := Rg rfl
set_option maxRecDepth 100000 in
theorem e154_10 {L : Lo} {S : List Value} {h : Hp} : Run 154 10 L S h = Run 154 28 L S h := Rg rfl
set_option maxRecDepth 100000 in
theorem e154_13 {L : Lo} {S : List Value} {h : Hp} {x0 x1 : Option Value} {v : Int32} : Run 154 13 (x0 :: x1 :: some (.int v) :: L) S h = Run 154 14 (x0 :: x1 :: some (.int v) :: L) (.int v :: S) h := Rg rfl
set_option maxRecDepth 100000 in
theorem e154_14 {L : Lo} {S : List Value} {h : Hp} : Run 154 14 L S h = Run 154 15 L (.int 0 :: S) h := Rg rfl
set_option maxRecDepth 100000 in
theorem e154_15 {L : Lo} {S : List Value} {h : Hp} : Run 154 15 L S h = Run 154 17 L (.int 14 :: S) h := Rg rfl
set_option maxRecDepth 100000 in
theorem e154_17 {L : Lo} {h : Hp} {a3 : Int32} {a2 : Int32} {a1 : Int32} {a0 : Nat} : Run 154 17 L [.int a3, .int a2, .int a1, .ref a0] h = (Run 118 0 [some (.int a1), some (.int a2), some (.int a3)] [] h).bind fun o => aft 154 17 20 L [.ref a0] o := Rc (c := 118) (As := [.int a1, .int a2, .int a3]) (S' := [.ref a0]) (pc' := 20) rfl
set_option maxRecDepth 100000 in
theorem e154_20 {L : Lo} {S : List Value} {h : Hp} {x : Int32} : Run 154 20 L (.int x :: S) h = if x = 0 then Run 154 27 L S h else Run 154 23 L S h := Rbr (c := cnd .eq x 0 = true) (off := 7) rfl rfl cnd_eq
set_option maxRecDepth 100000 in
theorem e154_23 {L : Lo} {S : List Value} {h : Hp} : Run 154 23 L S h = Run 154 24 L (.int 0 :: S) h := Rg rfl
set_option maxRecDepth 100000 in
theorem e154_24 {L : Lo} {S : List Value} {h : Hp} : Run 154 24 L S h = Run 154 28 L S h := Rg rfl
set_option maxRecDepth 100000 in
theorem e154_27 {L : Lo} {S : List Value} {h : Hp} : Run 154 27 L S h = Run 154 28 L (.int 2 :: S) h := Rg rfl
set_option maxRecDepth 100000 in
theorem e154_28 {L : Lo} {S : List Value} {h : Hp} {b : Nat} {v : Value} : Run 154 28 L (v :: .ref b :: S) h = (pf h 9 5 b v).bind fun h1 => Run 154 31 L S h1 := Rb rfl fun _ => rfl
set_option maxRecDepth 100000 in
theorem e154_31 {L : Lo} {S : List Value} {h : Hp} {v : Nat} : Run 154 31 (some (.ref v) :: L) S h = Run 154 32 (some (.ref v) :: L) (.ref v :: S) h := Rg rfl
set_option maxRecDepth 100000 in
theorem e154_32 {L : Lo} {S : List Value} {h : Hp} {b : Nat} : Run 154 32 L (.ref b :: S) h = (gf h 9 5 b).bind fun v => Run 154 35 L (v :: S) h := Rb rfl fun _ => rfl
set_option maxRecDepth 100000 in
theorem e154_35 {L : Lo} {S : List Value} {h : Hp} {x : Int32} : Run 154 35 L (.int x :: S) h = if x = 0 then Run 154 42 L S h else Run 154 38 L S h := Rbr (c := cnd .eq x 0 = true) (off := 7) rfl rfl cnd_eq
set_option maxRecDepth 100000 in
theorem e154_38 {L : Lo} {S : List Value} {h : Hp} : Run 154 38 L S h = Run 154 39 L (.int 0 :: S) h := Rg rfl
set_option maxRecDepth 100000 in
theorem e154_39 {L : Lo} {S : List Value} {h : Hp} : Run 154 39 L S h = Run 154 48 L S h := Rg rfl
set_option maxRecDepth 100000 in
theorem e154_42 {L : Lo} {S : List Value} {h : Hp} {v : Nat} : Run 154 42 (some (.ref v) :: L) S h = Run 154 43 (some (.ref v) :: L) (.ref v :: S) h := Rg rfl
set_option maxRecDepth 100000 in
theorem e154_43 {L : Lo} {S : List Value} {h : Hp} {x0 : Option Value} {v : Int32} : Run 154 43 (x0 :: some (.int v) :: L) S h = Run 154 44 (x0 :: some (.int v) :: L) (.int v :: S) h := Rg rfl
set_option maxRecDepth 100000 in
theorem e154_44 {L : Lo} {S : List Value} {h : Hp} {x0 x1 : Option Value} {v : Int32} : Run 154 44 (x0 :: x1 :: some (.int v) :: L) S h = Run 154 45 (x0 :: x1 :: some (.int v) :: L) (.int v :: S) h := Rg rfl
set_option maxRecDepth 100000 in
theorem e154_45 {L : Lo} {h : Hp} {a2 : Int32} {a1 : Int32} {a0 : Nat} (hO : isO h a0 9 = true) : Run 154 45 L [.int a2, .int a1, .ref a0] h = (Run 153 0 [some (.ref a0), some (.int a1), some (.int a2)] [] h).bind fun o => aft 154 45 48 L [] o := Rcv (c := 153) (As := [.int a1, .int a2]) (S' := []) (pc' := 48) 9 rfl hO
set_option maxRecDepth 100000 in
theorem e154_48 {L : Lo} {h : Hp} {x : Int32} : Run 154 48 L [.int x] h = some (.inl (some (.int x)), h) := Rd (if_pos (c := narrow .int (.int x) = .int x) rfl)
set_option maxRecDepth 100000 in
theorem e155_0 {L : Lo} {S : List Value} {h : Hp} {v : Nat} : Run 155 0 (some (.ref v) :: L) S h = Run 155 1 (some (.ref v) :: L) (.ref v :: S) h := Rg rfl
set_option maxRecDepth 100000 in
theorem e155_1 {L : Lo} {S : List Value} {h : Hp} {v : Nat} : Run 155 1 (some (.ref v) :: L) S h = Run 155 2 (some (.ref v) :: L) (.ref v :: S) h := Rg rfl
set_option maxRecDepth 100000 in
theorem e155_2 {L : Lo} {S : List Value} {h : Hp} {x0 : Option Value} {v : Int32} : Run 155 2 (x0 :: some (.int v) :: L) S h = Run 155 3 (x0 :: some (.int v) :: L) (.int v :: S) h := Rg rfl
set_option maxRecDepth 100000 in
theorem e155_3 {L : Lo} {h : Hp} {a2 : Int32} {a1 : Nat} {a0 : Nat} (hO : isO h a1 9 = true) : Run 155 3 L [.int a2, .ref a1, .ref a0] h = (Run 123 0 [some (.ref a1), some (.int a2)] [] h).bind fun o => aft 155 3 6 L [.ref a0] o := Rcv (c := 123) (As := [.int a2]) (S' := [.ref a0]) (pc' := 6) 9 rfl hO
set_option maxRecDepth 100000 in
theorem e155_6 {L : Lo} {S : List Value} {h : Hp} {x : Int32} : Run 155 6 L (.int x :: S) h = if x = 0 then Run 155 13 L S h else Run 155 9 L S h := Rbr (c := cnd .eq x 0 = true) (off := 7) rfl rfl cnd_eq
set_option maxRecDepth 100000 in
theorem e155_9 {L : Lo} {S : List Value} {h : Hp} : Run 155 9 L S h = Run 155 10 L (.int 0 :: S) h := Rg rfl
set_option maxRecDepth 100000 in
theorem e155_10 {L : Lo} {S : List Value} {h : Hp} : Run 155 10 L S h = Run 155 14 L S h := Rg rfl
set_option maxRecDepth 100000 in
theorem e155_13 {L : Lo} {S : List Value} {h : Hp} : Run 155 13 L S h = Run 155 14 L (.int 1 :: S) h := Rg rfl
set_option maxRecDepth 100000 in
theorem e155_14 {L : Lo} {S : List Value} {h : Hp} {b : Nat} {v : Value} : Run 155 14 L (v :: .ref b :: S) h = (pf h 9 5 b v).bind fun h1 => Run 155 17 L S h1 := Rb rfl fun _ => rfl
set_option maxRecDepth 100000 in
theorem e155_17 {L : Lo} {S : List Value} {h : Hp} {v : Nat} : Run 155 17 (some (.ref v) :: L) S h = Run 155 18 (some (.ref v) :: L) (.ref v :: S) h := Rg rfl
set_option maxRecDepth 100000 in
theorem e155_18 {L : Lo} {S : List Value} {h : Hp} {b : Nat} : Run 155 18 L (.ref b :: S) h = (gf h 9 5 b).bind fun v => Run 155 21 L (v :: S) h := Rb rfl fun _ => rfl
set_option maxRecDepth 100000 in
theorem e155_21 {L : Lo} {S : List Value} {h : Hp} {x : Int32} : Run 155 21 L (.int x :: S) h = if x = 0 then Run 155 28 L S h else Run 155 24 L S h := Rbr (c := cnd .eq x 0 = true) (off := 7) rfl rfl cnd_eq
set_option maxRecDepth 100000 in
theorem e155_24 {L : Lo} {S : List Value} {h : Hp} : Run 155 24 L S h = Run 155 25 L (.int 0 :: S) h := Rg rfl
set_option maxRecDepth 100000 in
theorem e155_25 {L : Lo} {S : List Value} {h : Hp} : Run 155 25 L S h = Run 155 33 L S h := Rg rfl
set_option maxRecDepth 100000 in
theorem e155_28 {L : Lo} {S : List Value} {h : Hp} {v : Nat} : Run 155 28 (some (.ref v) :: L) S h = Run 155 29 (some (.ref v) :: L) (.ref v :: S) h := Rg rfl
set_option maxRecDepth 100000 in
theorem e155_29 {L : Lo} {S : List Value} {h : Hp} {x0 : Option Value} {v : Int32} : Run 155 29 (x0 :: some (.int v) :: L) S h = Run 155 30 (x0 :: some (.int v) :: L) (.int v :: S) h := Rg rfl
set_option maxRecDepth 100000 in
theorem e155_30 {L : Lo} {h : Hp} {a1 : Int32} {a0 : Nat} (hO : isO h a0 9 = true) : Run 155 30 L [.int a1, .ref a0] h = (Run 132 0 [some (.ref a0), some (.int a1)] [] h).bind fun o => aft 155 30 33 L [] o := Rcv (c := 132) (As := [.int a1]) (S' := []) (pc' := 33) 9 rfl hO
set_option maxRecDepth 100000 in
theorem e155_33 {L : Lo} {h : Hp} {x : Int32} : Run 155 33 L [.int x] h = some (.inl (some (.int x)), h) := Rd (if_pos (c := narrow .int (.int x) = .int x) rfl)
set_option maxRecDepth 100000 in
theorem e156_0 {L : Lo} {S : List Value} {h : Hp} {v : Nat} : Run 156 0 (some (.ref v) :: L) S h = Run 156 1 (some (.ref v) :: L) (.ref v :: S) h := Rg rfl
set_option maxRecDepth 100000 in
theorem e156_1 {L : Lo} {S : List Value} {h : Hp} {v : Nat} : Run 156 1 (some (.ref v) :: L) S h = Run 156 2 (some (.ref v) :: L) (.ref v :: S) h := Rg rfl
set_option maxRecDepth 100000 in
theorem e156_2 {L : Lo} {S : List Value} {h : Hp} {x0 : Option Value} {v : Int32} : Run 156 2 (x0 :: some (.int v) :: L) S h = Run 156 3 (x0 :: some (.int v) :: L) (.int v :: S) h := Rg rfl
set_option maxRecDepth 100000 in
theorem e156_3 {L : Lo} {h : Hp} {a2 : Int32} {a1 : Nat} {a0 : Nat} (hO : isO h a1 9 = true) : Run 156 3 L [.int a2, .ref a1, .ref a0] h = (Run 123 0 [some (.ref a1), some (.int a2)] [] h).bind fun o => aft 156 3 6 L [.ref a0] o := Rcv (c := 123) (As := [.int a2]) (S' := [.ref a0]) (pc' := 6) 9 rfl hO
set_option maxRecDepth 100000 in
theorem e156_6 {L : Lo} {S : List Value} {h : Hp} {x : Int32} : Run 156 6 L (.int x :: S) h = if x = 0 then Run 156 21 L S h else Run 156 9 L S h := Rbr (c := cnd .eq x 0 = true) (off := 15) rfl rfl cnd_eq
set_option maxRecDepth 100000 in
theorem e156_9 {L : Lo} {S : List Value} {h : Hp} {v : Nat} : Run 156 9 (some (.ref v) :: L) S h = Run 156 10 (some (.ref v) :: L) (.ref v :: S) h := Rg rfl
set_option maxRecDepth 100000 in
theorem e156_10 {L : Lo} {S : List Value} {h : Hp} {x0 x1 : Option Value} {v : Int32} : Run 156 10 (x0 :: x1 :: some (.int v) :: L) S h = Run 156 11 (x0 :: x1 :: some (.int v) :: L) (.int v :: S) h := Rg rfl
set_option maxRecDepth 100000 in
theorem e156_11 {L : Lo} {h : Hp} {a2 : Int32} {a1 : Nat} {a0 : Nat} (hO : isO h a1 9 = true) : Run 156 11 L [.int a2, .ref a1, .ref a0] h = (Run 123 0 [some (.ref a1), some (.int a2)] [] h).bind fun o => aft 156 11 14 L [.ref a0] o := Rcv (c := 123) (As := [.int a2]) (S' := [.ref a0]) (pc' := 14) 9 rfl hO
set_option maxRecDepth 100000 in
theorem e156_14 {L : Lo} {S : List Value} {h : Hp} {x : Int32} : Run 156 14 L (.int x :: S) h = if x = 0 then Run 156 21 L S h else Run 156 17 L S h := Rbr (c := cnd .eq x 0 = true) (off := 7) rfl rfl cnd_eq
set_option maxRecDepth 100000 in
theorem e156_17 {L : Lo} {S : List Value} {h : Hp} : Run 156 17 L S h = Run 156 18 L (.int 0 :: S) h := Rg rfl
set_option maxRecDepth 100000 in
theorem e156_18 {L : Lo} {S : List Value} {h : Hp} : Run 156 18 L S h = Run 156 22 L S h := Rg rfl
set_option maxRecDepth 100000 in
theorem e156_21 {L : Lo} {S : List Value} {h : Hp} : Run 156 21 L S h = Run 156 22 L (.int 1 :: S) h := Rg rfl
set_option maxRecDepth 100000 in
theorem e156_22 {L : Lo} {S : List Value} {h : Hp} {b : Nat} {v : Value} : Run 156 22 L (v :: .ref b :: S) h = (pf h 9 5 b v).bind fun h1 => Run 156 25 L S h1 := Rb rfl fun _ => rfl
set_option maxRecDepth 100000 in
theorem e156_25 {L : Lo} {S : List Value} {h : Hp} {v : Nat} : Run 156 25 (some (.ref v) :: L) S h = Run 156 26 (some (.ref v) :: L) (.ref v :: S) h := Rg rfl
set_option maxRecDepth 100000 in
theorem e156_26 {L : Lo} {S : List Value} {h : Hp} {b : Nat} : Run 156 26 L (.ref b :: S) h = (gf h 9 5 b).bind fun v => Run 156 29 L (v :: S) h := Rb rfl fun _ => rfl
set_option maxRecDepth 100000 in
theorem e156_29 {L : Lo} {S : List Value} {h : Hp} {x : Int32} : Run 156 29 L (.int x :: S) h = if x = 0 then Run 156 36 L S h else Run 156 32 L S h := Rbr (c := cnd .eq x 0 = true) (off := 7) rfl rfl cnd_eq
set_option maxRecDepth 100000 in
theorem e156_32 {L : Lo} {S : List Value} {h : Hp} : Run 156 32 L S h = Run 156 33 L (.int 0 :: S) h := Rg rfl
set_option maxRecDepth 100000 in
theorem e156_33 {L : Lo} {S : List Value} {h : Hp} : Run 156 33 L S h = Run 156 42 L S h := Rg rfl
set_option maxRecDepth 100000 in
theorem e156_36 {L : Lo} {S : List Value} {h : Hp} {v : Nat} : Run 156 36 (some (.ref v) :: L) S h = Run 156 37 (some (.ref v) :: L) (.ref v :: S) h := Rg rfl
set_option maxRecDepth 100000 in
theorem e156_37 {L : Lo} {S : List Value} {h : Hp} {x0 : Option Value} {v : Int32} : Run 156 37 (x0 :: some (.int v) :: L) S h = Run 156 38 (x0 :: some (.int v) :: L) (.int v :: S) h := Rg rfl
set_option maxRecDepth 100000 in
theorem e156_38 {L : Lo} {S : List Value} {h : Hp} {x0 x1 : Option Value} {v : Int32} : Run 156 38 (x0 :: x1 :: some (.int v) :: L) S h = Run 156 39 (x0 :: x1 :: some (.int v) :: L) (.int v :: S) h := Rg rfl
set_option maxRecDepth 100000 in
theorem e156_39 {L : Lo} {h : Hp} {a2 : Int32} {a1 : Int32} {a0 : Nat} (hO : isO h a0 9 = true) : Run 156 39 L [.int a2, .int a1, .ref a0] h = (Run 136 0 [some (.ref a0), some (.int a1), some (.int a2), none, none, none] [] h).bind fun o => aft 156 39 42 L [] o := Rcv (c := 136) (As := [.int a1, .int a2]) (S' := []) (pc' := 42) 9 rfl hO
set_option maxRecDepth 100000 in
theorem e156_42 {L : Lo} {h : Hp} {x : Int32} : Run 156 42 L [.int x] h = some (.inl (some (.int x)), h) := Rd (if_pos (c := narrow .int (.int x) = .int x) rfl)
set_option maxRecDepth 100000 in
theorem e157_0 {L : Lo} {S : List Value} {h : Hp} {v : Nat} : Run 157 0 (some (.ref v) :: L) S h = Run 157 1 (some (.ref v) :: L) (.ref v :: S) h := Rg rfl
set_option maxRecDepth 100000 in
theorem e157_1 {L : Lo} {S : List Value} {h : Hp} {v : Nat} : Run 157 1 (some (.ref v) :: L) S h = Run 157 2 (some (.ref v) :: L) (.ref v :: S) h := Rg rfl
set_option maxRecDepth 100000 in
theorem e157_2 {L : Lo} {S : List Value} {h : Hp} {x0 : Option Value} {v : Int32} : Run 157 2 (x0 :: some (.int v) :: L) S h = Run 157 3 (x0 :: some (.int v) :: L) (.int v :: S) h := Rg rfl
set_option maxRecDepth 100000 in
theorem e157_3 {L : Lo} {h : Hp} {a2 : Int32} {a1 : Nat} {a0 : Nat} (hO : isO h a1 9 = true) : Run 157 3 L [.int a2, .ref a1, .ref a0] h = (Run 123 0 [some (.ref a1), some (.int a2)] [] h).bind fun o => aft 157 3 6 L [.ref a0] o := Rcv (c := 123) (As := [.int a2]) (S' := [.ref a0]) (pc' := 6) 9 rfl hO
set_option maxRecDepth 100000 in
theorem e157_6 {L : Lo} {S : List Value} {h : Hp} {x : Int32} : Run 157 6 L (.int x :: S) h = if x = 0 then Run 157 21 L S h else Run 157 9 L S h := Rbr (c := cnd .eq x 0 = true) (off := 15) rfl rfl cnd_eq
set_option maxRecDepth 100000 in
theorem e157_9 {L : Lo} {S : List Value} {h : Hp} {v : Nat} : Run 157 9 (some (.ref v) :: L) S h = Run 157 10 (some (.ref v) :: L) (.ref v :: S) h := Rg rfl
set_option maxRecDepth 100000 in
theorem e157_10 {L : Lo} {S : List Value} {h : Hp} {x0 x1 : Option Value} {v : Int32} : Run 157 10 (x0 :: x1 :: some (.int v) :: L) S h = Run 157 11 (x0 :: x1 :: some (.int v) :: L) (.int v :: S) h := Rg rfl
set_option maxRecDepth 100000 in
theorem e157_11 {L : Lo} {h : Hp} {a2 : Int32} {a1 : Nat} {a0 : Nat} (hO : isO h a1 9 = true) : Run 157 11 L [.int a2, .ref a1, .ref a0] h = (Run 123 0 [some (.ref a1), some (.int a2)] [] h).bind fun o => aft 157 11 14 L [.ref a0] o := Rcv (c := 123) (As := [.int a2]) (S' := [.ref a0]) (pc' := 14) 9 rfl hO
set_option maxRecDepth 100000 in
theorem e157_14 {L : Lo} {S : List Value} {h : Hp} {x : Int32} : Run 157 14 L (.int x :: S) h = if x = 0 then Run 157 21 L S h else Run 157 17 L S h := Rbr (c := cnd .eq x 0 = true) (off := 7) rfl rfl cnd_eq
set_option maxRecDepth 100000 in
theorem e157_17 {L : Lo} {S : List Value} {h : Hp} : Run 157 17 L S h = Run 157 18 L (.int 0 :: S) h := Rg rfl
set_option maxRecDepth 100000 in
theorem e157_18 {L : Lo} {S : List Value} {h : Hp} : Run 157 18 L S h = Run 157 22 L S h := Rg rfl
set_option maxRecDepth 100000 in
theorem e157_21 {L : Lo} {S : List Value} {h : Hp} : Run 157 21 L S h = Run 157 22 L (.int 1 :: S) h := Rg rfl
set_option maxRecDepth 100000 in
theorem e157_22 {L : Lo} {S : List Value} {h : Hp} {b : Nat} {v : Value} : Run 157 22 L (v :: .ref b :: S) h = (pf h 9 5 b v).bind fun h1 => Run 157 25 L S h1 := Rb rfl fun _ => rfl
set_option maxRecDepth 100000 in
theorem e157_25 {L : Lo} {S : List Value} {h : Hp} {v : Nat} : Run 157 25 (some (.ref v) :: L) S h = Run 157 26 (some (.ref v) :: L) (.ref v :: S) h := Rg rfl
set_option maxRecDepth 100000 in
theorem e157_26 {L : Lo} {S : List Value} {h : Hp} {b : Nat} : Run 157 26 L (.ref b :: S) h = (gf h 9 5 b).bind fun v => Run 157 29 L (v :: S) h := Rb rfl fun _ => rfl
set_option maxRecDepth 100000 in
theorem e157_29 {L : Lo} {S : List Value} {h : Hp} {x : Int32} : Run 157 29 L (.int x :: S) h = if x = 0 then Run 157 36 L S h else Run 157 32 L S h := Rbr (c := cnd .eq x 0 = true) (off := 7) rfl rfl cnd_eq
set_option maxRecDepth 100000 in
theorem e157_32 {L : Lo} {S : List Value} {h : Hp} : Run 157 32 L S h = Run 157 33 L (.int 0 :: S) h := Rg rfl
set_option maxRecDepth 100000 in
theorem e157_33 {L : Lo} {S : List Value} {h : Hp} : Run 157 33 L S h = Run 157 42 L S h := Rg rfl
set_option maxRecDepth 100000 in
theorem e157_36 {L : Lo} {S : List Value} {h : Hp} {v : Nat} : Run 157 36 (some (.ref v) :: L) S h = Run 157 37 (some (.ref v) :: L) (.ref v :: S) h := Rg rfl
set_option maxRecDepth 100000 in
theorem e157_37 {L : Lo} {S : List Value} {h : Hp} {x0 : Option Value} {v : Int32} : Run 157 37 (x0 :: some (.int v) :: L) S h = Run 157 38 (x0 :: some (.int v) :: L) (.int v :: S) h := Rg rfl
set_option maxRecDepth 100000 in
theorem e157_38 {L : Lo} {S : List Value} {h : Hp} {x0 x1 : Option Value} {v : Int32} : Run 157 38 (x0 :: x1 :: some (.int v) :: L) S h = Run 157 39 (x0 :: x1 :: some (.int v) :: L) (.int v :: S) h := Rg rfl
set_option maxRecDepth 100000 in
theorem e157_39 {L : Lo} {h : Hp} {a2 : Int32} {a1 : Int32} {a0 : Nat} (hO : isO h a0 9 = true) : Run 157 39 L [.int a2, .int a1, .ref a0] h = (Run 137 0 [some (.ref a0), some (.int a1), some (.int a2), none, none, none, none, none, none, none] [] h).bind fun o => aft 157 39 42 L [] o := Rcv (c := 137) (As := [.int a1, .int a2]) (S' := []) (pc' := 42) 9 rfl hO
set_option maxRecDepth 100000 in
theorem e157_42 {L : Lo} {h : Hp} {x : Int32} : Run 157 42 L [.int x] h = some (.inl (some (.int x)), h) := Rd (if_pos (c := narrow .int (.int x) = .int x) rfl)
set_option maxRecDepth 100000 in
theorem e158_0 {L : Lo} {S : List Value} {h : Hp} {v : Nat} : Run 158 0 (some (.ref v) :: L) S h = Run 158 1 (some (.ref v) :: L) (.ref v :: S) h := Rg rfl
set_option maxRecDepth 100000 in
theorem e158_1 {L : Lo} {S : List Value} {h : Hp} {x0 : Option Value} {v : Int32} : Run 158 1 (x0 :: some (.int v) :: L) S h = Run 158 2 (x0 :: some (.int v) :: L) (.int v :: S) h := Rg rfl
set_option maxRecDepth 100000 in
theorem e158_2 {L : Lo} {h : Hp} {a1 : Int32} {a0 : Nat} (hO : isO h a0 9 = true) : Run 158 2 L [.int a1, .ref a0] h = (Run 127 0 [some (.ref a0), some (.int a1)] [] h).bind fun o => aft 158 2 5 L [] o := Rcv (c := 127) (As := [.int a1]) (S' := []) (pc' := 5) 9 rfl hO
set_option maxRecDepth 100000 in
theorem e158_5 {L : Lo} {S : List Value} {h : Hp} {x : Int32} : Run 158 5 L (.int x :: S) h = if x = 0 then Run 158 42 L S h else Run 158 8 L S h := Rbr (c := cnd .eq x 0 = true) (off := 37) rfl rfl cnd_eq
set_option maxRecDepth 100000 in
theorem e158_8 {L : Lo} {S : List Value} {h : Hp} {v : Nat} : Run 158 8 (some (.ref v) :: L) S h = Run 158 9 (some (.ref v) :: L) (.ref v :: S) h := Rg rfl
set_option maxRecDepth 100000 in
theorem e158_9 {L : Lo} {S : List Value} {h : Hp} {x0 : Option Value} {v : Int32} : Run 158 9 (x0 :: some (.int v) :: L) S h = Run 158 10 (x0 :: some (.int v) :: L) (.int v :: S) h := Rg rfl
set_option maxRecDepth 100000 in
theorem e158_10 {L : Lo} {S : List Value} {h : Hp} : Run 158 10 L S h = Run 158 11 L (.int 4 :: S) h := Rg rfl
set_option maxRecDepth 100000 in
theorem e158_11 {L : Lo} {h : Hp} {a2 : Int32} {a1 : Int32} {a0 : Nat} (hO : isO h a0 9 = true) : Run 158 11 L [.int a2, .int a1, .ref a0] h = (Run 125 0 [some (.ref a0), some (.int a1), some (.int a2)] [] h).bind fun o => aft 158 11 14 L [] o := Rcv (c := 125) (As := [.int a1, .int a2]) (S' := []) (pc' := 14) 9 rfl hO
set_option maxRecDepth 100000 in
theorem e158_14 {L : Lo} {S : List Value} {h : Hp} {x : Int32} : Run 158 14 L (.int x :: S) h = if x ≤ 0 then Run 158 42 L S h else Run 158 17 L S h := Rbr (c := cnd .le x 0 = true) (off := 28) rfl rfl cnd_le
set_option maxRecDepth 100000 in
theorem e158_17 {L : Lo} {S : List Value} {h : Hp} {v : Nat} : Run 158 17 (some (.ref v) :: L) S h = Run 158 18 (some (.ref v) :: L) (.ref v :: S) h := Rg rfl
set_option maxRecDepth 100000 in
theorem e158_18 {L : Lo} {S : List Value} {h : Hp} {x0 : Option Value} {v : Int32} : Run 158 18 (x0 :: some (.int v) :: L) S h = Run 158 19 (x0 :: some (.int v) :: L) (.int v :: S) h := Rg rfl
set_option maxRecDepth 100000 in
theorem e158_19 {L : Lo} {S : List Value} {h : Hp} : Run 158 19 L S h = Run 158 21 L (.int 11 :: S) h := Rg rfl
set_option maxRecDepth 100000 in
theorem e158_21 {L : Lo} {h : Hp} {a2 : Int32} {a1 : Int32} {a0 : Nat} (hO : isO h a0 9 = true) : Run 158 21 L [.int a2, .int a1, .ref a0] h = (Run 125 0 [some (.ref a0), some (.int a1), some (.int a2)] [] h).bind fun o => aft 158 21 24 L [] o := Rcv (c := 125) (As := [.int a1, .int a2]) (S' := []) (pc' := 24) 9 rfl hO
set_option maxRecDepth 100000 in
theorem e158_24 {L : Lo} {S : List Value} {h : Hp} : Run 158 24 L S h = Run 158 25 L (.int (-1) :: S) h := Rg rfl
set_option maxRecDepth 100000 in
theorem e158_25 {L : Lo} {S : List Value} {h : Hp} {x z : Int32} : Run 158 25 L (.int z :: .int x :: S) h = if x = z then Run 158 28 L S h else Run 158 42 L S h := RbrN (c := cnd .ne x z = true) (off := 17) rfl rfl cnd_ne
set_option maxRecDepth 100000 in
theorem e158_28 {L : Lo} {S : List Value} {h : Hp} {v : Nat} : Run 158 28 (some (.ref v) :: L) S h = Run 158 29 (some (.ref v) :: L) (.ref v :: S) h := Rg rfl
set_option maxRecDepth 100000 in
theorem e158_29 {L : Lo} {S : List Value} {h : Hp} {x0 : Option Value} {v : Int32} : Run 158 29 (x0 :: some (.int v) :: L) S h = Run 158 30 (x0 :: some (.int v) :: L) (.int v :: S) h := Rg rfl
set_option maxRecDepth 100000 in
theorem e158_30 {L : Lo} {S : List Value} {h : Hp} : Run 158 30 L S h = Run 158 32 L (.int 8 :: S) h := Rg rfl
set_option maxRecDepth 100000 in
theorem e158_32 {L : Lo} {h : Hp} {a2 : Int32} {a1 : Int32} {a0 : Nat} (hO : isO h a0 9 = true) : Run 158 32 L [.int a2, .int a1, .ref a0] h = (Run 125 0 [some (.ref a0), some (.int a1), some (.int a2)] [] h).bind fun o => aft 158 32 35 L [] o := Rcv (c := 125) (As := [.int a1, .int a2]) (S' := []) (pc' := 35) 9 rfl hO
set_option maxRecDepth 100000 in
theorem e158_35 {L : Lo} {S : List Value} {h : Hp} {x : Int32} : Run 158 35 L (.int x :: S) h = if x ≤ 0 then Run 158 42 L S h else Run 158 38 L S h := Rbr (c := cnd .le x 0 = true) (off := 7) rfl rfl cnd_le
set_option maxRecDepth 100000 in
theorem e158_38 {L : Lo} {S : List Value} {h : Hp} : Run 158 38 L S h = Run 158 39 L (.int 1 :: S) h := Rg rfl
set_option maxRecDepth 100000 in
theorem e158_39 {L : Lo} {S : List Value} {h : Hp} : Run 158 39 L S h = Run 158 43 L S h := Rg rfl
set_option maxRecDepth 100000 in
theorem e158_42 {L : Lo} {S : List Value} {h : Hp} : Run 158 42 L S h = Run 158 43 L (.int 0 :: S) h := Rg rfl
set_option maxRecDepth 100000 in
theorem e158_43 {L : Lo} {h : Hp} {x : Int32} (hx : narrow .boolean (.int x) = .int x) : Run 158 43 L [.int x] h = some (.inl (some (.int x)), h) := Rd (if_pos hx)
set_option maxRecDepth 100000 in
theorem e159_0 {L : Lo} {S : List Value} {h : Hp} {v : Nat} : Run 159 0 (some (.ref v) :: L) S h = Run 159 1 (some (.ref v) :: L) (.ref v :: S) h := Rg rfl
set_option maxRecDepth 100000 in
theorem e159_1 {L : Lo} {S : List Value} {h : Hp} {x0 : Option Value} {v : Int32} : Run 159 1 (x0 :: some (.int v) :: L) S h = Run 159 2 (x0 :: some (.int v) :: L) (.int v :: S) h := Rg rfl
set_option maxRecDepth 100000 in
theorem e159_2 {L : Lo} {h : Hp} {a1 : Int32} {a0 : Nat} (hO : isO h a0 9 = true) : Run 159 2 L [.int a1, .ref a0] h = (Run 124 0 [some (.ref a0), some (.int a1)] [] h).bind fun o => aft 159 2 5 L [] o := Rcv (c := 124) (As := [.int a1]) (S' := []) (pc' := 5) 9 rfl hO
set_option maxRecDepth 100000 in
theorem e159_5 {L : Lo} {S : List Value} {h : Hp} {x : Int32} : Run 159 5 L (.int x :: S) h = if x = 0 then Run 159 8 L S h else Run 159 10 L S h := RbrN (c := cnd .ne x 0 = true) (off := 5) rfl rfl cnd_ne
set_option maxRecDepth 100000 in
theorem e159_8 {L : Lo} {S : List Value} {h : Hp} : Run 159 8 L S h = Run 159 9 L (.int 1 :: S) h := Rg rfl
set_option maxRecDepth 100000 in
theorem e159_9 {L : Lo} {h : Hp} {x : Int32} : Run 159 9 L [.int x] h = some (.inl (some (.int x)), h) := Rd (if_pos (c := narrow .int (.int x) = .int x) rfl)
set_option maxRecDepth 100000 in
theorem e159_10 {L : Lo} {S : List Value} {h : Hp} {v : Nat} : Run 159 10 (some (.ref v) :: L) S h = Run 159 11 (some (.ref v) :: L) (.ref v :: S) h := Rg rfl
set_option maxRecDepth 100000 in
theorem e159_11 {L : Lo} {S : List Value} {h : Hp} {x0 : Option Value} {v : Int32} : Run 159 11 (x0 :: some (.int v) :: L) S h = Run 159 12 (x0 :: some (.int v) :: L) (.int v :: S) h := Rg rfl
set_option maxRecDepth 100000 in
theorem e159_12 {L : Lo} {h : Hp} {a1 : Int32} {a0 : Nat} (hO : isO h a0 9 = true) : Run 159 12 L [.int a1, .ref a0] h = (Run 158 0 [some (.ref a0), some (.int a1)] [] h).bind fun o => aft 159 12 15 L [] o := Rcv (c := 158) (As := [.int a1]) (S' := []) (pc' := 15) 9 rfl hO
set_option maxRecDepth 100000 in
theorem e159_15 {L : Lo} {S : List Value} {h : Hp} {x : Int32} : Run 159 15 L (.int x :: S) h = if x = 0 then Run 159 64 L S h else Run 159 18 L S h := Rbr (c := cnd .eq x 0 = true) (off := 49) rfl rfl cnd_eq
set_option maxRecDepth 100000 in
theorem e159_18 {L : Lo} {S : List Value} {h : Hp} {v : Nat} : Run 159 18 (some (.ref v) :: L) S h = Run 159 19 (some (.ref v) :: L) (.ref v :: S) h := Rg rfl
set_option maxRecDepth 100000 in
theorem e159_19 {L : Lo} {S : List Value} {h : Hp} {x0 : Option Value} {v : Int32} : Run 159 19 (x0 :: some (.int v) :: L) S h = Run 159 20 (x0 :: some (.int v) :: L) (.int v :: S) h := Rg rfl
set_option maxRecDepth 100000 in
theorem e159_20 {L : Lo} {S : List Value} {h : Hp} : Run 159 20 L S h = Run 159 21 L (.int 2 :: S) h := Rg rfl
set_option maxRecDepth 100000 in
theorem e159_21 {L : Lo} {h : Hp} {a2 : Int32} {a1 : Int32} {a0 : Nat} (hO : isO h a0 9 = true) : Run 159 21 L [.int a2, .int a1, .ref a0] h = (Run 125 0 [some (.ref a0), some (.int a1), some (.int a2)] [] h).bind fun o => aft 159 21 24 L [] o := Rcv (c := 125) (As := [.int a1, .int a2]) (S' := []) (pc' := 24) 9 rfl hO
set_option maxRecDepth 100000 in
theorem e159_24 {L : Lo} {S : List Value} {h : Hp} {v : Nat} : Run 159 24 (some (.ref v) :: L) S h = Run 159 25 (some (.ref v) :: L) (.ref v :: S) h := Rg rfl
set_option maxRecDepth 100000 in
theorem e159_25 {L : Lo} {S : List Value} {h : Hp} {b : Nat} : Run 159 25 L (.ref b :: S) h = (gf h 9 0 b).bind fun v => Run 159 28 L (v :: S) h := Rb rfl fun _ => rfl
set_option maxRecDepth 100000 in
theorem e159_28 {L : Lo} {S : List Value} {h : Hp} : Run 159 28 L S h = Run 159 29 L (.int 2 :: S) h := Rg rfl
set_option maxRecDepth 100000 in
theorem e159_29 {L : Lo} {S : List Value} {h : Hp} {i : Int32} {b : Nat} : Run 159 29 L (.int i :: .ref b :: S) h = (gaI h b i).bind fun v => Run 159 30 L (.int v :: S) h := Rb rfl fun _ => rfl
set_option maxRecDepth 100000 in
theorem e159_30 {L : Lo} {h : Hp} {a1 : Int32} {a0 : Int32} : Run 159 30 L [.int a1, .int a0] h = (Run 143 0 [some (.int a0), some (.int a1), none] [] h).bind fun o => aft 159 30 33 L [] o := Rc (c := 143) (As := [.int a0, .int a1]) (S' := []) (pc' := 33) rfl
set_option maxRecDepth 100000 in
theorem e159_33 {L : Lo} {S : List Value} {h : Hp} : Run 159 33 L S h = Run 159 34 L (.int 3 :: S) h := Rg rfl
set_option maxRecDepth 100000 in
theorem e159_34 {L : Lo} {S : List Value} {h : Hp} {x z : Int32} : Run 159 34 L (.int z :: .int x :: S) h = if z ≤ x then Run 159 64 L S h else Run 159 37 L S h := Rbr (c := cnd .ge x z = true) (off := 30) rfl rfl cnd_ge
set_option maxRecDepth 100000 in
theorem e159_37 {L : Lo} {S : List Value} {h : Hp} {v : Nat} : Run 159 37 (some (.ref v) :: L) S h = Run 159 38 (some (.ref v) :: L) (.ref v :: S) h := Rg rfl
set_option maxRecDepth 100000 in
theorem e159_38 {L : Lo} {S : List Value} {h : Hp} {v : Nat} : Run 159 38 (some (.ref v) :: L) S h = Run 159 39 (some (.ref v) :: L) (.ref v :: S) h := Rg rfl
set_option maxRecDepth 100000 in
theorem e159_39 {L : Lo} {S : List Value} {h : Hp} {v : Nat} : Run 159 39 (some (.ref v) :: L) S h = Run 159 40 (some (.ref v) :: L) (.ref v :: S) h := Rg rfl
set_option maxRecDepth 100000 in
theorem e159_40 {L : Lo} {S : List Value} {h : Hp} {x0 : Option Value} {v : Int32} : Run 159 40 (x0 :: some (.int v) :: L) S h = Run 159 41 (x0 :: some (.int v) :: L) (.int v :: S) h := Rg rfl
set_option maxRecDepth 100000 in
theorem e159_41 {L : Lo} {S : List Value} {h : Hp} : Run 159 41 L S h = Run 159 42 L (.int 1 :: S) h := Rg rfl
set_option maxRecDepth 100000 in
theorem e159_42 {L : Lo} {h : Hp} {a4 : Int32} {a3 : Int32} {a2 : Nat} {a1 : Nat} {a0 : Nat} (hO : isO h a2 9 = true) : Run 159 42 L [.int a4, .int a3, .ref a2, .ref a1, .ref a0] h = (Run 125 0 [some (.ref a2), some (.int a3), some (.int a4)] [] h).bind fun o => aft 159 42 45 L [.ref a1, .ref a0] o := Rcv (c := 125) (As := [.int a3, .int a4]) (S' := [.ref a1, .ref a0]) (pc' := 45) 9 rfl hO
set_option maxRecDepth 100000 in
theorem e159_45 {L : Lo} {S : List Value} {h : Hp} {v : Nat} : Run 159 45 (some (.ref v) :: L) S h = Run 159 46 (some (.ref v) :: L) (.ref v :: S) h := Rg rfl
set_option maxRecDepth 100000 in
theorem e159_46 {L : Lo} {S : List Value} {h : Hp} {x0 : Option Value} {v : Int32} : Run 159 46 (x0 :: some (.int v) :: L) S h = Run 159 47 (x0 :: some (.int v) :: L) (.int v :: S) h := Rg rfl
set_option maxRecDepth 100000 in
theorem e159_47 {L : Lo} {S : List Value} {h : Hp} : Run 159 47 L S h = Run 159 48 L (.int 2 :: S) h := Rg rfl
set_option maxRecDepth 100000 in
theorem e159_48 {L : Lo} {h : Hp} {a5 : Int32} {a4 : Int32} {a3 : Nat} {a2 : Int32} {a1 : Nat} {a0 : Nat} (hO : isO h a3 9 = true) : Run 159 48 L [.int a5, .int a4, .ref a3, .int a2, .ref a1, .ref a0] h = (Run 125 0 [some (.ref a3), some (.int a4), some (.int a5)] [] h).bind fun o => aft 159 48 51 L [.int a2, .ref a1, .ref a0] o := Rcv (c := 125) (As := [.int a4, .int a5]) (S' := [.int a2, .ref a1, .ref a0]) (pc' := 51) 9 rfl hO
set_option maxRecDepth 100000 in
theorem e159_51 {L : Lo} {h : Hp} {a3 : Int32} {a2 : Int32} {a1 : Nat} {a0 : Nat} (hO : isO h a1 9 = true) : Run 159 51 L [.int a3, .int a2, .ref a1, .ref a0] h = (Run 130 0 [some (.ref a1), some (.int a2), some (.int a3), none, none] [] h).bind fun o => aft 159 51 54 L [.ref a0] o := Rcv (c := 130) (As := [.int a2, .int a3]) (S' := [.ref a0]) (pc' := 54) 9 rfl hO
set_option maxRecDepth 100000 in
theorem e159_54 {L : Lo} {h : Hp} {a1 : Int32} {a0 : Nat} (hO : isO h a0 9 = true) : Run 159 54 L [.int a1, .ref a0] h = (Run 133 0 [some (.ref a0), some (.int a1)] [] h).bind fun o => aft 159 54 57 L [] o := Rcv (c := 133) (As := [.int a1]) (S' := []) (pc' := 57) 9 rfl hO
set_option maxRecDepth 100000 in
theorem e159_57 {L : Lo} {S : List Value} {h : Hp} {x : Int32} : Run 159 57 L (.int x :: S) h = if x = 0 then Run 159 64 L S h else Run 159 60 L S h := Rbr (c := cnd .eq x 0 = true) (off := 7) rfl rfl cnd_eq
set_option maxRecDepth 100000 in
theorem e159_60 {L : Lo} {S : List Value} {h : Hp} : Run 159 60 L S h = Run 159 61 L (.int 1 :: S) h := Rg rfl
set_option maxRecDepth 100000 in
theorem e159_61 {L : Lo} {S : List Value} {h : Hp} : Run 159 61 L S h = Run 159 65 L S h := Rg rfl
set_option maxRecDepth 100000 in
theorem e159_64 {L : Lo} {S : List Value} {h : Hp} : Run 159 64 L S h = Run 159 65 L (.int 0 :: S) h := Rg rfl
set_option maxRecDepth 100000 in
theorem e159_65 {L : Lo} {S : List Value} {h : Hp} {x0 x1 : Option Value} {y : Option Value} {v : Int32} : Run 159 65 (x0 :: x1 :: y :: L) (.int v :: S) h = Run 159 66 (x0 :: ck x1 :: some (.int v) :: L) S h := Rg rfl
set_option maxRecDepth 100000 in
theorem e159_66 {L : Lo} {S : List Value} {h : Hp} {x0 x1 : Option Value} {v : Int32} : Run 159 66 (x0 :: x1 :: some (.int v) :: L) S h = Run 159 67 (x0 :: x1 :: some (.int v) :: L) (.int v :: S) h := Rg rfl
set_option maxRecDepth 100000 in
theorem e159_67 {L : Lo} {S : List Value} {h : Hp} {x : Int32} : Run 159 67 L (.int x :: S) h = if x = 0 then Run 159 74 L S h else Run 159 70 L S h := Rbr (c := cnd .eq x 0 = true) (off := 7) rfl rfl cnd_eq
set_option maxRecDepth 100000 in
theorem e159_70 {L : Lo} {S : List Value} {h : Hp} : Run 159 70 L S h = Run 159 71 L (.int 0 :: S) h := Rg rfl
set_option maxRecDepth 100000 in
theorem e159_71 {L : Lo} {S : List Value} {h : Hp} : Run 159 71 L S h = Run 159 75 L S h := Rg rfl
set_option maxRecDepth 100000 in
theorem e159_74 {L : Lo} {S : List Value} {h : Hp} : Run 159 74 L S h = Run 159 75 L (.int 2 :: S) h := Rg rfl
set_option maxRecDepth 100000 in
theorem e159_75 {L : Lo} {h : Hp} {x : Int32} : Run 159 75 L [.int x] h = some (.inl (some (.int x)), h) := Rd (if_pos (c := narrow .int (.int x) = .int x) rfl)
set_option maxRecDepth 100000 in
theorem e160_0 {L : Lo} {S : List Value} {h : Hp} {v : Nat} : Run 160 0 (some (.ref v) :: L) S h = Run 160 1 (some (.ref v) :: L) (.ref v :: S) h := Rg rfl
set_option maxRecDepth 100000 in
theorem e160_1 {L : Lo} {S : List Value} {h : Hp} {x0 : Option Value} {v : Int32} : Run 160 1 (x0 :: some (.int v) :: L) S h = Run 160 2 (x0 :: some (.int v) :: L) (.int v :: S) h := Rg rfl
set_option maxRecDepth 100000 in
theorem e160_2 {L : Lo} {S : List Value} {h : Hp} : Run 160 2 L S h = Run 160 3 L (.int 1 :: S) h := Rg rfl
set_option maxRecDepth 100000 in
theorem e160_3 {L : Lo} {S : List Value} {h : Hp} {v : Nat} : Run 160 3 (some (.ref v) :: L) S h = Run 160 4 (some (.ref v) :: L) (.ref v :: S) h := Rg rfl
set_option maxRecDepth 100000 in
theorem e160_4 {L : Lo} {S : List Value} {h : Hp} {v : Nat} : Run 160 4 (some (.ref v) :: L) S h = Run 160 5 (some (.ref v) :: L) (.ref v :: S) h := Rg rfl
set_option maxRecDepth 100000 in
theorem e160_5 {L : Lo} {S : List Value} {h : Hp} {x0 : Option Value} {v : Int32} : Run 160 5 (x0 :: some (.int v) :: L) S h = Run 160 6 (x0 :: some (.int v) :: L) (.int v :: S) h := Rg rfl
set_option maxRecDepth 100000 in
theorem e160_6 {L : Lo} {S : List Value} {h : Hp} : Run 160 6 L S h = Run 160 7 L (.int 1 :: S) h := Rg rfl
set_option maxRecDepth 100000 in
theorem e160_7 {L : Lo} {h : Hp} {a6 : Int32} {a5 : Int32} {a4 : Nat} {a3 : Nat} {a2 : Int32} {a1 : Int32} {a0 : Nat} (hO : isO h a4 9 = true) : Run 160 7 L [.int a6, .int a5, .ref a4, .ref a3, .int a2, .int a1, .ref a0] h = (Run 125 0 [some (.ref a4), some (.int a5), some (.int a6)] [] h).bind fun o => aft 160 7 10 L [.ref a3, .int a2, .int a1, .ref a0] o := Rcv (c := 125) (As := [.int a5, .int a6]) (S' := [.ref a3, .int a2, .int a1, .ref a0]) (pc' := 10) 9 rfl hO
set_option maxRecDepth 100000 in
theorem e160_10 {L : Lo} {S : List Value} {h : Hp} {v : Nat} : Run 160 10 (some (.ref v) :: L) S h = Run 160 11 (some (.ref v) :: L) (.ref v :: S) h := Rg rfl
set_option maxRecDepth 100000 in
theorem e160_11 {L : Lo} {S : List Value} {h : Hp} {x0 : Option Value} {v : Int32} : Run 160 11 (x0 :: some (.int v) :: L) S h = Run 160 12 (x0 :: some (.int v) :: L) (.int v :: S) h := Rg rfl
set_option maxRecDepth 100000 in
theorem e160_12 {L : Lo} {S : List Value} {h : Hp} : Run 160 12 L S h = Run 160 13 L (.int 2 :: S) h := Rg rfl
set_option maxRecDepth 100000 in
theorem e160_13 {L : Lo} {h : Hp} {a7 : Int32} {a6 : Int32} {a5 : Nat} {a4 : Int32} {a3 : Nat} {a2 : Int32} {a1 : Int32} {a0 : Nat} (hO : isO h a5 9 = true) : Run 160 13 L [.int a7, .int a6, .ref a5, .int a4, .ref a3, .int a2, .int a1, .ref a0] h = (Run 125 0 [some (.ref a5), some (.int a6), some (.int a7)] [] h).bind fun o => aft 160 13 16 L [.int a4, .ref a3, .int a2, .int a1, .ref a0] o := Rcv (c := 125) (As := [.int a6, .int a7]) (S' := [.int a4, .ref a3, .int a2, .int a1, .ref a0]) (pc' := 16) 9 rfl hO
set_option maxRecDepth 100000 in
theorem e160_16 {L : Lo} {h : Hp} {a5 : Int32} {a4 : Int32} {a3 : Nat} {a2 : Int32} {a1 : Int32} {a0 : Nat} (hO : isO h a3 9 = true) : Run 160 16 L [.int a5, .int a4, .ref a3, .int a2, .int a1, .ref a0] h = (Run 130 0 [some (.ref a3), some (.int a4), some (.int a5), none, none] [] h).bind fun o => aft 160 16 19 L [.int a2, .int a1, .ref a0] o := Rcv (c := 130) (As := [.int a4, .int a5]) (S' := [.int a2, .int a1, .ref a0]) (pc' := 19) 9 rfl hO
set_option maxRecDepth 100000 in
theorem e160_19 {L : Lo} {h : Hp} {a3 : Int32} {a2 : Int32} {a1 : Int32} {a0 : Nat} (hO : isO h a0 9 = true) : Run 160 19 L [.int a3, .int a2, .int a1, .ref a0] h = (Run 126 0 [some (.ref a0), some (.int a1), some (.int a2), some (.int a3)] [] h).bind fun o => aft 160 19 22 L [] o := Rcv (c := 126) (As := [.int a1, .int a2, .int a3]) (S' := []) (pc' := 22) 9 rfl hO
set_option maxRecDepth 100000 in
theorem e160_22 {L : Lo} {S : List Value} {h : Hp} {v : Nat} : Run 160 22 (some (.ref v) :: L) S h = Run 160 23 (some (.ref v) :: L) (.ref v :: S) h := Rg rfl
set_option maxRecDepth 100000 in
theorem e160_23 {L : Lo} {S : List Value} {h : Hp} {x0 : Option Value} {v : Int32} : Run 160 23 (x0 :: some (.int v) :: L) S h = Run 160 24 (x0 :: some (.int v) :: L) (.int v :: S) h := Rg rfl
set_option maxRecDepth 100000 in
theorem e160_24 {L : Lo} {S : List Value} {h : Hp} : Run 160 24 L S h = Run 160 26 L (.int 8 :: S) h := Rg rfl
set_option maxRecDepth 100000 in
theorem e160_26 {L : Lo} {S : List Value} {h : Hp} {v : Nat} : Run 160 26 (some (.ref v) :: L) S h = Run 160 27 (some (.ref v) :: L) (.ref v :: S) h := Rg rfl
set_option maxRecDepth 100000 in
theorem e160_27 {L : Lo} {S : List Value} {h : Hp} {x0 : Option Value} {v : Int32} : Run 160 27 (x0 :: some (.int v) :: L) S h = Run 160 28 (x0 :: some (.int v) :: L) (.int v :: S) h := Rg rfl
set_option maxRecDepth 100000 in
theorem e160_28 {L : Lo} {S : List Value} {h : Hp} : Run 160 28 L S h = Run 160 30 L (.int 8 :: S) h := Rg rfl
set_option maxRecDepth 100000 in
theorem e160_30 {L : Lo} {h : Hp} {a5 : Int32} {a4 : Int32} {a3 : Nat} {a2 : Int32} {a1 : Int32} {a0 : Nat} (hO : isO h a3 9 = true) : Run 160 30 L [.int a5, .int a4, .ref a3, .int a2, .int a1, .ref a0] h = (Run 125 0 [some (.ref a3), some (.int a4), some (.int a5)] [] h).bind fun o => aft 160 30 33 L [.int a2, .int a1, .ref a0] o := Rcv (c := 125) (As := [.int a4, .int a5]) (S' := [.int a2, .int a1, .ref a0]) (pc' := 33) 9 rfl hO
set_option maxRecDepth 100000 in
theorem e160_33 {L : Lo} {S : List Value} {h : Hp} : Run 160 33 L S h = Run 160 34 L (.int 1 :: S) h := Rg rfl
set_option maxRecDepth 100000 in
theorem e160_34 {L : Lo} {S : List Value} {h : Hp} {x z : Int32} : Run 160 34 L (.int z :: .int x :: S) h = Run 160 35 L (.int (x - z) :: S) h := Rg rfl
set_option maxRecDepth 100000 in
theorem e160_35 {L : Lo} {h : Hp} {a3 : Int32} {a2 : Int32} {a1 : Int32} {a0 : Nat} (hO : isO h a0 9 = true) : Run 160 35 L [.int a3, .int a2, .int a1, .ref a0] h = (Run 126 0 [some (.ref a0), some (.int a1), some (.int a2), some (.int a3)] [] h).bind fun o => aft 160 35 38 L [] o := Rcv (c := 126) (As := [.int a1, .int a2, .int a3]) (S' := []) (pc' := 38) 9 rfl hO
set_option maxRecDepth 100000 in
theorem e160_38 {L : Lo} {S : List Value} {h : Hp} {v : Nat} : Run 160 38 (some (.ref v) :: L) S h = Run 160 39 (some (.ref v) :: L) (.ref v :: S) h := Rg rfl
set_option maxRecDepth 100000 in
theorem e160_39 {L : Lo} {S : List Value} {h : Hp} {x0 : Option Value} {v : Int32} : Run 160 39 (x0 :: some (.int v) :: L) S h = Run 160 40 (x0 :: some (.int v) :: L) (.int v :: S) h := Rg rfl
set_option maxRecDepth 100000 in
theorem e160_40 {L : Lo} {S : List Value} {h : Hp} : Run 160 40 L S h = Run 160 42 L (.int 13 :: S) h := Rg rfl
set_option maxRecDepth 100000 in
theorem e160_42 {L : Lo} {S : List Value} {h : Hp} : Run 160 42 L S h = Run 160 43 L (.int 1 :: S) h := Rg rfl
set_option maxRecDepth 100000 in
theorem e160_43 {L : Lo} {h : Hp} {a3 : Int32} {a2 : Int32} {a1 : Int32} {a0 : Nat} (hO : isO h a0 9 = true) : Run 160 43 L [.int a3, .int a2, .int a1, .ref a0] h = (Run 126 0 [some (.ref a0), some (.int a1), some (.int a2), some (.int a3)] [] h).bind fun o => aft 160 43 46 L [] o := Rcv (c := 126) (As := [.int a1, .int a2, .int a3]) (S' := []) (pc' := 46) 9 rfl hO
set_option maxRecDepth 100000 in
theorem e160_46 {L : Lo} {S : List Value} {h : Hp} {v : Nat} : Run 160 46 (some (.ref v) :: L) S h = Run 160 47 (some (.ref v) :: L) (.ref v :: S) h := Rg rfl
set_option maxRecDepth 100000 in
theorem e160_47 {L : Lo} {S : List Value} {h : Hp} {x0 : Option Value} {v : Int32} : Run 160 47 (x0 :: some (.int v) :: L) S h = Run 160 48 (x0 :: some (.int v) :: L) (.int v :: S) h := Rg rfl
set_option maxRecDepth 100000 in
theorem e160_48 {L : Lo} {S : List Value} {h : Hp} : Run 160 48 L S h = Run 160 49 L (.int 1 :: S) h := Rg rfl
set_option maxRecDepth 100000 in
theorem e160_49 {L : Lo} {h : Hp} {a2 : Int32} {a1 : Int32} {a0 : Nat} (hO : isO h a0 9 = true) : Run 160 49 L [.int a2, .int a1, .ref a0] h = (Run 125 0 [some (.ref a0), some (.int a1), some (.int a2)] [] h).bind fun o => aft 160 49 52 L [] o := Rcv (c := 125) (As := [.int a1, .int a2]) (S' := []) (pc' := 52) 9 rfl hO
set_option maxRecDepth 100000 in
theorem e160_52 {L : Lo} {h : Hp} {x : Int32} : Run 160 52 L [.int x] h = some (.inl (some (.int x)), h) := Rd (if_pos (c := narrow .int (.int x) = .int x) rfl)
set_option maxRecDepth 100000 in
theorem e161_0 {L : Lo} {S : List Value} {h : Hp} {v : Nat} : Run 161 0 (some (.ref v) :: L) S h = Run 161 1 (some (.ref v) :: L) (.ref v :: S) h := Rg rfl
set_option maxRecDepth 100000 in
theorem e161_1 {L : Lo} {S : List Value} {h : Hp} {v : Nat} : Run 161 1 (some (.ref v) :: L) S h = Run 161 2 (some (.ref v) :: L) (.ref v :: S) h := Rg rfl
set_option maxRecDepth 100000 in
theorem e161_2 {L : Lo} {S : List Value} {h : Hp} {x0 : Option Value} {v : Int32} : Run 161 2 (x0 :: some (.int v) :: L) S h = Run 161 3 (x0 :: some (.int v) :: L) (.int v :: S) h := Rg rfl
set_option maxRecDepth 100000 in
theorem e161_3 {L : Lo} {h : Hp} {a2 : Int32} {a1 : Nat} {a0 : Nat} (hO : isO h a1 9 = true) : Run 161 3 L [.int a2, .ref a1, .ref a0] h = (Run 159 0 [some (.ref a1), some (.int a2), none] [] h).bind fun o => aft 161 3 6 L [.ref a0] o := Rcv (c := 159) (As := [.int a2]) (S' := [.ref a0]) (pc' := 6) 9 rfl hO
set_option maxRecDepth 100000 in
theorem e161_6 {L : Lo} {S : List Value} {h : Hp} {b : Nat} {v : Value} : Run 161 6 L (v :: .ref b :: S) h = (pf h 9 5 b v).bind fun h1 => Run 161 9 L S h1 := Rb rfl fun _ => rfl
set_option maxRecDepth 100000 in
theorem e161_9 {L : Lo} {S : List Value} {h : Hp} {v : Nat} : Run 161 9 (some (.ref v) :: L) S h = Run 161 10 (some (.ref v) :: L) (.ref v :: S) h := Rg rfl
set_option maxRecDepth 100000 in
theorem e161_10 {L : Lo} {S : List Value} {h : Hp} {b : Nat} : Run 161 10 L (.ref b :: S) h = (gf h 9 5 b).bind fun v => Run 161 13 L (v :: S) h := Rb rfl fun _ => rfl
set_option maxRecDepth 100000 in
theorem e161_13 {L : Lo} {S : List Value} {h : Hp} {x : Int32} : Run 161 13 L (.int x :: S) h = if x = 0 then Run 161 18 L S h else Run 161 16 L S h := Rbr (c := cnd .eq x 0 = true) (off := 5) rfl rfl cnd_eq
set_option maxRecDepth 100000 in
theorem e161_16 {L : Lo} {S : List Value} {h : Hp} : Run 161 16 L S h = Run 161 17 L (.int 0 :: S) h := Rg rfl
set_option maxRecDepth 100000 in
theorem e161_17 {L : Lo} {h : Hp} {x : Int32} : Run 161 17 L [.int x] h = some (.inl (some (.int x)), h) := Rd (if_pos (c := narrow .int (.int x) = .int x) rfl)
set_option maxRecDepth 100000 in
theorem e161_18 {L : Lo} {S : List Value} {h : Hp} {v : Nat} : Run 161 18 (some (.ref v) :: L) S h = Run 161 19 (some (.ref v) :: L) (.ref v :: S) h := Rg rfl
set_option maxRecDepth 100000 in
theorem e161_19 {L : Lo} {h : Hp} {a0 : Nat} (hO : isO h a0 9 = true) : Run 161 19 L [.ref a0] h = (Run 121 0 [some (.ref a0), none] [] h).bind fun o => aft 161 19 22 L [] o := Rcv (c := 121) (As := []) (S' := []) (pc' := 22) 9 rfl hO
set_option maxRecDepth 100000 in
theorem e161_22 {L : Lo} {S : List Value} {h : Hp} {v : Nat} : Run 161 22 (some (.ref v) :: L) S h = Run 161 23 (some (.ref v) :: L) (.ref v :: S) h := Rg rfl
set_option maxRecDepth 100000 in
theorem e161_23 {L : Lo} {S : List Value} {h : Hp} {x0 : Option Value} {v : Int32} : Run 161 23 (x0 :: some (.int v) :: L) S h = Run 161 24 (x0 :: some (.int v) :: L) (.int v :: S) h := Rg rfl
set_option maxRecDepth 100000 in
theorem e161_24 {L : Lo} {h : Hp} {a1 : Int32} {a0 : Nat} (hO : isO h a0 9 = true) : Run 161 24 L [.int a1, .ref a0] h = (Run 160 0 [some (.ref a0), some (.int a1)] [] h).bind fun o => aft 161 24 27 L [] o := Rcv (c := 160) (As := [.int a1]) (S' := []) (pc' := 27) 9 rfl hO
set_option maxRecDepth 100000 in
theorem e161_27 {L : Lo} {h : Hp} {x : Int32} : Run 161 27 L [.int x] h = some (.inl (some (.int x)), h) := Rd (if_pos (c := narrow .int (.int x) = .int x) rfl)
set_option maxRecDepth 100000 in
theorem e162_0 {L : Lo} {S : List Value} {h : Hp} {v : Int32} : Run 162 0 (some (.int v) :: L) S h = Run 162 1 (some (.int v) :: L) (.int v :: S) h := Rg rfl
set_option maxRecDepth 100000 in
theorem e162_1 {L : Lo} {S : List Value} {h : Hp} {x0 : Option Value} {v : Int32} : Run 162 1 (x0 :: some (.int v) :: L) S h = Run 162 2 (x0 :: some (.int v) :: L) (.int v :: S) h := Rg rfl
set_option maxRecDepth 100000 in
theorem e162_2 {L : Lo} {S : List Value} {h : Hp} {x : Int32} : Run 162 2 L (.int x :: S) h = if x = 0 then Run 162 9 L S h else Run 162 5 L S h := Rbr (c := cnd .eq x 0 = true) (off := 7) rfl rfl cnd_eq
set_option maxRecDepth 100000 in
theorem e162_5 {L : Lo} {S : List Value} {h : Hp} : Run 162 5 L S h = Run 162 6 L (.int 1 :: S) h := Rg rfl
set_option maxRecDepth 100000 in
theorem e162_6 {L : Lo} {S : List Value} {h : Hp} : Run 162 6 L S h = Run 162 10 L S h := Rg rfl
set_option maxRecDepth 100000 in
theorem e162_9 {L : Lo} {S : List Value} {h : Hp} : Run 162 9 L S h = Run 162 10 L (.int 5 :: S) h := Rg rfl
set_option maxRecDepth 100000 in
theorem e162_10 {L : Lo} {S : List Value} {h : Hp} {x z : Int32} : Run 162 10 L (.int z :: .int x :: S) h = Run 162 11 L (.int (x + z) :: S) h := Rg rfl
set_option maxRecDepth 100000 in
theorem e162_11 {L : Lo} {S : List Value} {h : Hp} : Run 162 11 L S h = Run 162 13 L (.int 6 :: S) h := Rg rfl
set_option maxRecDepth 100000 in
theorem e162_13 {L : Lo} {S : List Value} {h : Hp} {x z : Int32} (hz : ¬ z = 0) : Run 162 13 L (.int z :: .int x :: S) h = Run 162 14 L (.int (x - x / z * z) :: S) h := Rg (if_neg hz)
set_option maxRecDepth 100000 in
theorem e162_14 {L : Lo} {h : Hp} {x : Int32} : Run 162 14 L [.int x] h = some (.inl (some (.int x)), h) := Rd (if_pos (c := narrow .int (.int x) = .int x) rfl)
set_option maxRecDepth 100000 in
theorem e163_0 {L : Lo} {S : List Value} {h : Hp} {v : Nat} : Run 163 0 (some (.ref v) :: L) S h = Run 163 1 (some (.ref v) :: L) (.ref v :: S) h := Rg rfl
set_option maxRecDepth 100000 in
theorem e163_1 {L : Lo} {S : List Value} {h : Hp} {x0 : Option Value} {v : Int32} : Run 163 1 (x0 :: some (.int v) :: L) S h = Run 163 2 (x0 :: some (.int v) :: L) (.int v :: S) h := Rg rfl
set_option maxRecDepth 100000 in
theorem e163_2 {L : Lo} {h : Hp} {a1 : Int32} {a0 : Nat} (hO : isO h a0 9 = true) : Run 163 2 L [.int a1, .ref a0] h = (Run 124 0 [some (.ref a0), some (.int a1)] [] h).bind fun o => aft 163 2 5 L [] o := Rcv (c := 124) (As := [.int a1]) (S' := []) (pc' := 5) 9 rfl hO
set_option maxRecDepth 100000 in
theorem e163_5 {L : Lo} {S : List Value} {h : Hp} {x : Int32} : Run 163 5 L (.int x :: S) h = if x = 0 then Run 163 8 L S h else Run 163 10 L S h := RbrN (c := cnd .ne x 0 = true) (off := 5) rfl rfl cnd_ne
set_option maxRecDepth 100000 in
theorem e163_8 {L : Lo} {S : List Value} {h : Hp} : Run 163 8 L S h = Run 163 9 L (.int 1 :: S) h := Rg rfl
set_option maxRecDepth 100000 in
theorem e163_9 {L : Lo} {h : Hp} {x : Int32} : Run 163 9 L [.int x] h = some (.inl (some (.int x)), h) := Rd (if_pos (c := narrow .int (.int x) = .int x) rfl)
set_option maxRecDepth 100000 in
theorem e163_10 {L : Lo} {S : List Value} {h : Hp} {v : Nat} : Run 163 10 (some (.ref v) :: L) S h = Run 163 11 (some (.ref v) :: L) (.ref v :: S) h := Rg rfl
set_option maxRecDepth 100000 in
theorem e163_11 {L : Lo} {S : List Value} {h : Hp} {x0 : Option Value} {v : Int32} : Run 163 11 (x0 :: some (.int v) :: L) S h = Run 163 12 (x0 :: some (.int v) :: L) (.int v :: S) h := Rg rfl
set_option maxRecDepth 100000 in
theorem e163_12 {L : Lo} {h : Hp} {a1 : Int32} {a0 : Nat} (hO : isO h a0 9 = true) : Run 163 12 L [.int a1, .ref a0] h = (Run 158 0 [some (.ref a0), some (.int a1)] [] h).bind fun o => aft 163 12 15 L [] o := Rcv (c := 158) (As := [.int a1]) (S' := []) (pc' := 15) 9 rfl hO
set_option maxRecDepth 100000 in
theorem e163_15 {L : Lo} {S : List Value} {h : Hp} {x : Int32} : Run 163 15 L (.int x :: S) h = if x = 0 then Run 163 56 L S h else Run 163 18 L S h := Rbr (c := cnd .eq x 0 = true) (off := 41) rfl rfl cnd_eq
set_option maxRecDepth 100000 in
theorem e163_18 {L : Lo} {S : List Value} {h : Hp} {v : Nat} : Run 163 18 (some (.ref v) :: L) S h = Run 163 19 (some (.ref v) :: L) (.ref v :: S) h := Rg rfl
set_option maxRecDepth 100000 in
theorem e163_19 {L : Lo} {S : List Value} {h : Hp} {x0 : Option Value} {v : Int32} : Run 163 19 (x0 :: some (.int v) :: L) S h = Run 163 20 (x0 :: some (.int v) :: L) (.int v :: S) h := Rg rfl
set_option maxRecDepth 100000 in
theorem e163_20 {L : Lo} {S : List Value} {h : Hp} : Run 163 20 L S h = Run 163 21 L (.int 2 :: S) h := Rg rfl
set_option maxRecDepth 100000 in
theorem e163_21 {L : Lo} {h : Hp} {a2 : Int32} {a1 : Int32} {a0 : Nat} (hO : isO h a0 9 = true) : Run 163 21 L [.int a2, .int a1, .ref a0] h = (Run 125 0 [some (.ref a0), some (.int a1), some (.int a2)] [] h).bind fun o => aft 163 21 24 L [] o := Rcv (c := 125) (As := [.int a1, .int a2]) (S' := []) (pc' := 24) 9 rfl hO
set_option maxRecDepth 100000 in
theorem e163_24 {L : Lo} {S : List Value} {h : Hp} {x0 x1 : Option Value} {v : Int32} : Run 163 24 (x0 :: x1 :: some (.int v) :: L) S h = Run 163 25 (x0 :: x1 :: some (.int v) :: L) (.int v :: S) h := Rg rfl
set_option maxRecDepth 100000 in
theorem e163_25 {L : Lo} {h : Hp} {a1 : Int32} {a0 : Int32} : Run 163 25 L [.int a1, .int a0] h = (Run 162 0 [some (.int a0), some (.int a1)] [] h).bind fun o => aft 163 25 28 L [] o := Rc (c := 162) (As := [.int a0, .int a1]) (S' := []) (pc' := 28) rfl
set_option maxRecDepth 100000 in
theorem e163_28 {L : Lo} {S : List Value} {h : Hp} {v : Nat} : Run 163 28 (some (.ref v) :: L) S h = Run 163 29 (some (.ref v) :: L) (.ref v :: S) h := Rg rfl
set_option maxRecDepth 100000 in
theorem e163_29 {L : Lo} {S : List Value} {h : Hp} {b : Nat} : Run 163 29 L (.ref b :: S) h = (gf h 9 0 b).bind fun v => Run 163 32 L (v :: S) h := Rb rfl fun _ => rfl
set_option maxRecDepth 100000 in
theorem e163_32 {L : Lo} {S : List Value} {h : Hp} : Run 163 32 L S h = Run 163 33 L (.int 2 :: S) h := Rg rfl
set_option maxRecDepth 100000 in
theorem e163_33 {L : Lo} {S : List Value} {h : Hp} {i : Int32} {b : Nat} : Run 163 33 L (.int i :: .ref b :: S) h = (gaI h b i).bind fun v => Run 163 34 L (.int v :: S) h := Rb rfl fun _ => rfl
set_option maxRecDepth 100000 in
theorem e163_34 {L : Lo} {h : Hp} {a1 : Int32} {a0 : Int32} : Run 163 34 L [.int a1, .int a0] h = (Run 143 0 [some (.int a0), some (.int a1), none] [] h).bind fun o => aft 163 34 37 L [] o := Rc (c := 143) (As := [.int a0, .int a1]) (S' := []) (pc' := 37) rfl
set_option maxRecDepth 100000 in
theorem e163_37 {L : Lo} {S : List Value} {h : Hp} : Run 163 37 L S h = Run 163 38 L (.int 3 :: S) h := Rg rfl
set_option maxRecDepth 100000 in
theorem e163_38 {L : Lo} {S : List Value} {h : Hp} {x z : Int32} : Run 163 38 L (.int z :: .int x :: S) h = if x < z then Run 163 52 L S h else Run 163 41 L S h := Rbr (c := cnd .lt x z = true) (off := 14) rfl rfl cnd_lt
set_option maxRecDepth 100000 in
theorem e163_41 {L : Lo} {S : List Value} {h : Hp} {v : Nat} : Run 163 41 (some (.ref v) :: L) S h = Run 163 42 (some (.ref v) :: L) (.ref v :: S) h := Rg rfl
set_option maxRecDepth 100000 in
theorem e163_42 {L : Lo} {S : List Value} {h : Hp} {x0 : Option Value} {v : Int32} : Run 163 42 (x0 :: some (.int v) :: L) S h = Run 163 43 (x0 :: some (.int v) :: L) (.int v :: S) h := Rg rfl
set_option maxRecDepth 100000 in
theorem e163_43 {L : Lo} {S : List Value} {h : Hp} : Run 163 43 L S h = Run 163 45 L (.int 13 :: S) h := Rg rfl
set_option maxRecDepth 100000 in
theorem e163_45 {L : Lo} {h : Hp} {a2 : Int32} {a1 : Int32} {a0 : Nat} (hO : isO h a0 9 = true) : Run 163 45 L [.int a2, .int a1, .ref a0] h = (Run 125 0 [some (.ref a0), some (.int a1), some (.int a2)] [] h).bind fun o => aft 163 45 48 L [] o := Rcv (c := 125) (As := [.int a1, .int a2]) (S' := []) (pc' := 48) 9 rfl hO
set_option maxRecDepth 100000 in
theorem e163_48 {L : Lo} {S : List Value} {h : Hp} : Run 163 48 L S h = Run 163 49 L (.int 1 :: S) h := Rg rfl
set_option maxRecDepth 100000 in
theorem e163_49 {L : Lo} {S : List Value} {h : Hp} {x z : Int32} : Run 163 49 L (.int z :: .int x :: S) h = if x = z then Run 163 52 L S h else Run 163 56 L S h := RbrN (c := cnd .ne x z = true) (off := 7) rfl rfl cnd_ne
set_option maxRecDepth 100000 in
theorem e163_52 {L : Lo} {S : List Value} {h : Hp} : Run 163 52 L S h = Run 163 53 L (.int 1 :: S) h := Rg rfl
set_option maxRecDepth 100000 in
theorem e163_53 {L : Lo} {S : List Value} {h : Hp} : Run 163 53 L S h = Run 163 57 L S h := Rg rfl
set_option maxRecDepth 100000 in
theorem e163_56 {L : Lo} {S : List Value} {h : Hp} : Run 163 56 L S h = Run 163 57 L (.int 0 :: S) h := Rg rfl
set_option maxRecDepth 100000 in
theorem e163_57 {L : Lo} {S : List Value} {h : Hp} {x0 x1 x2 : Option Value} {y : Option Value} {v : Int32} : Run 163 57 (x0 :: x1 :: x2 :: y :: L) (.int v :: S) h = Run 163 58 (x0 :: x1 :: ck x2 :: some (.int v) :: L) S h := Rg rfl
set_option maxRecDepth 100000 in
theorem e163_58 {L : Lo} {S : List Value} {h : Hp} {x0 x1 x2 : Option Value} {v : Int32} : Run 163 58 (x0 :: x1 :: x2 :: some (.int v) :: L) S h = Run 163 59 (x0 :: x1 :: x2 :: some (.int v) :: L) (.int v :: S) h := Rg rfl
set_option maxRecDepth 100000 in
theorem e163_59 {L : Lo} {S : List Value} {h : Hp} {x : Int32} : Run 163 59 L (.int x :: S) h = if x = 0 then Run 163 66 L S h else Run 163 62 L S h := Rbr (c := cnd .eq x 0 = true) (off := 7) rfl rfl cnd_eq
set_option maxRecDepth 100000 in
theorem e163_62 {L : Lo} {S : List Value} {h : Hp} : Run 163 62 L S h = Run 163 63 L (.int 0 :: S) h := Rg rfl
set_option maxRecDepth 100000 in
theorem e163_63 {L : Lo} {S : List Value} {h : Hp} : Run 163 63 L S h = Run 163 67 L S h := Rg rfl
set_option maxRecDepth 100000 in
theorem e163_66 {L : Lo} {S : List Value} {h : Hp} : Run 163 66 L S h = Run 163 67 L (.int 2 :: S) h := Rg rfl
set_option maxRecDepth 100000 in
theorem e163_67 {L : Lo} {h : Hp} {x : Int32} : Run 163 67 L [.int x] h = some (.inl (some (.int x)), h) := Rd (if_pos (c := narrow .int (.int x) = .int x) rfl)
set_option maxRecDepth 100000 in
theorem e164_0 {L : Lo} {S : List Value} {h : Hp} {v : Nat} : Run 164 0 (some (.ref v) :: L) S h = Run 164 1 (some (.ref v) :: L) (.ref v :: S) h := Rg rfl
set_option maxRecDepth 100000 in
theorem e164_1 {L : Lo} {S : List Value} {h : Hp} {x0 : Option Value} {v : Int32} : Run 164 1 (x0 :: some (.int v) :: L) S h = Run 164 2 (x0 :: some (.int v) :: L) (.int v :: S) h := Rg rfl
set_option maxRecDepth 100000 in
theorem e164_2 {L : Lo} {S : List Value} {h : Hp} : Run 164 2 L S h = Run 164 3 L (.int 2 :: S) h := Rg rfl
set_option maxRecDepth 100000 in
theorem e164_3 {L : Lo} {S : List Value} {h : Hp} {v : Nat} : Run 164 3 (some (.ref v) :: L) S h = Run 164 4 (some (.ref v) :: L) (.ref v :: S) h := Rg rfl
set_option maxRecDepth 100000 in
theorem e164_4 {L : Lo} {S : List Value} {h : Hp} {x0 : Option Value} {v : Int32} : Run 164 4 (x0 :: some (.int v) :: L) S h = Run 164 5 (x0 :: some (.int v) :: L) (.int v :: S) h := Rg rfl
set_option maxRecDepth 100000 in
theorem e164_5 {L : Lo} {S : List Value} {h : Hp} : Run 164 5 L S h = Run 164 6 L (.int 2 :: S) h := Rg rfl
set_option maxRecDepth 100000 in
theorem e164_6 {L : Lo} {h : Hp} {a5 : Int32} {a4 : Int32} {a3 : Nat} {a2 : Int32} {a1 : Int32} {a0 : Nat} (hO : isO h a3 9 = true) : Run 164 6 L [.int a5, .int a4, .ref a3, .int a2, .int a1, .ref a0] h = (Run 125 0 [some (.ref a3), some (.int a4), some (.int a5)] [] h).bind fun o => aft 164 6 9 L [.int a2, .int a1, .ref a0] o := Rcv (c := 125) (As := [.int a4, .int a5]) (S' := [.int a2, .int a1, .ref a0]) (pc' := 9) 9 rfl hO
set_option maxRecDepth 100000 in
theorem e164_9 {L : Lo} {S : List Value} {h : Hp} {x0 x1 : Option Value} {v : Int32} : Run 164 9 (x0 :: x1 :: some (.int v) :: L) S h = Run 164 10 (x0 :: x1 :: some (.int v) :: L) (.int v :: S) h := Rg rfl
set_option maxRecDepth 100000 in
theorem e164_10 {L : Lo} {h : Hp} {a4 : Int32} {a3 : Int32} {a2 : Int32} {a1 : Int32} {a0 : Nat} : Run 164 10 L [.int a4, .int a3, .int a2, .int a1, .ref a0] h = (Run 162 0 [some (.int a3), some (.int a4)] [] h).bind fun o => aft 164 10 13 L [.int a2, .int a1, .ref a0] o := Rc (c := 162) (As := [.int a3, .int a4]) (S' := [.int a2, .int a1, .ref a0]) (pc' := 13) rfl
set_option maxRecDepth 100000 in
theorem e164_13 {L : Lo} {h : Hp} {a3 : Int32} {a2 : Int32} {a1 : Int32} {a0 : Nat} (hO : isO h a0 9 = true) : Run 164 13 L [.int a3, .int a2, .int a1, .ref a0] h = (Run 126 0 [some (.ref a0), some (.int a1), some (.int a2), some (.int a3)] [] h).bind fun o => aft 164 13 16 L [] o := Rcv (c := 126) (As := [.int a1, .int a2, .int a3]) (S' := []) (pc' := 16) 9 rfl hO
set_option maxRecDepth 100000 in
theorem e164_16 {L : Lo} {S : List Value} {h : Hp} {v : Nat} : Run 164 16 (some (.ref v) :: L) S h = Run 164 17 (some (.ref v) :: L) (.ref v :: S) h := Rg rfl
set_option maxRecDepth 100000 in
theorem e164_17 {L : Lo} {S : List Value} {h : Hp} {x0 : Option Value} {v : Int32} : Run 164 17 (x0 :: some (.int v) :: L) S h = Run 164 18 (x0 :: some (.int v) :: L) (.int v :: S) h := Rg rfl
set_option maxRecDepth 100000 in
theorem e164_18 {L : Lo} {S : List Value} {h : Hp} : Run 164 18 L S h = Run 164 20 L (.int 8 :: S) h := Rg rfl
set_option maxRecDepth 100000 in
theorem e164_20 {L : Lo} {S : List Value} {h : Hp} {v : Nat} : Run 164 20 (some (.ref v) :: L) S h = Run 164 21 (some (.ref v) :: L) (.ref v :: S) h := Rg rfl
set_option maxRecDepth 100000 in
theorem e164_21 {L : Lo} {S : List Value} {h : Hp} {x0 : Option Value} {v : Int32} : Run 164 21 (x0 :: some (.int v) :: L) S h = Run 164 22 (x0 :: some (.int v) :: L) (.int v :: S) h := Rg rfl
set_option maxRecDepth 100000 in
theorem e164_22 {L : Lo} {S : List Value} {h : Hp} : Run 164 22 L S h = Run 164 24 L (.int 8 :: S) h := Rg rfl
set_option maxRecDepth 100000 in
theorem e164_24 {L : Lo} {h : Hp} {a5 : Int32} {a4 : Int32} {a3 : Nat} {a2 : Int32} {a1 : Int32} {a0 : Nat} (hO : isO h a3 9 = true) : Run 164 24 L [.int a5, .int a4, .ref a3, .int a2, .int a1, .ref a0] h = (Run 125 0 [some (.ref a3), some (.int a4), some (.int a5)] [] h).bind fun o => aft 164 24 27 L [.int a2, .int a1, .ref a0] o := Rcv (c := 125) (As := [.int a4, .int a5]) (S' := [.int a2, .int a1, .ref a0]) (pc' := 27) 9 rfl hO
set_option maxRecDepth 100000 in
theorem e164_27 {L : Lo} {S : List Value} {h : Hp} : Run 164 27 L S h = Run 164 28 L (.int 1 :: S) h := Rg rfl
set_option maxRecDepth 100000 in
theorem e164_28 {L : Lo} {S : List Value} {h : Hp} {x z : Int32} : Run 164 28 L (.int z :: .int x :: S) h = Run 164 29 L (.int (x - z) :: S) h := Rg rfl
set_option maxRecDepth 100000 in
theorem e164_29 {L : Lo} {h : Hp} {a3 : Int32} {a2 : Int32} {a1 : Int32} {a0 : Nat} (hO : isO h a0 9 = true) : Run 164 29 L [.int a3, .int a2, .int a1, .ref a0] h = (Run 126 0 [some (.ref a0), some (.int a1), some (.int a2), some (.int a3)] [] h).bind fun o => aft 164 29 32 L [] o := Rcv (c := 126) (As := [.int a1, .int a2, .int a3]) (S' := []) (pc' := 32) 9 rfl hO
set_option maxRecDepth 100000 in
theorem e164_32 {L : Lo} {S : List Value} {h : Hp} {v : Nat} : Run 164 32 (some (.ref v) :: L) S h = Run 164 33 (some (.ref v) :: L) (.ref v :: S) h := Rg rfl
set_option maxRecDepth 100000 in
theorem e164_33 {L : Lo} {S : List Value} {h : Hp} {x0 : Option Value} {v : Int32} : Run 164 33 (x0 :: some (.int v) :: L) S h = Run 164 34 (x0 :: some (.int v) :: L) (.int v :: S) h := Rg rfl
set_option maxRecDepth 100000 in
theorem e164_34 {L : Lo} {S : List Value} {h : Hp} : Run 164 34 L S h = Run 164 36 L (.int 13 :: S) h := Rg rfl
set_option maxRecDepth 100000 in
theorem e164_36 {L : Lo} {S : List Value} {h : Hp} : Run 164 36 L S h = Run 164 37 L (.int 0 :: S) h := Rg rfl
set_option maxRecDepth 100000 in
theorem e164_37 {L : Lo} {h : Hp} {a3 : Int32} {a2 : Int32} {a1 : Int32} {a0 : Nat} (hO : isO h a0 9 = true) : Run 164 37 L [.int a3, .int a2, .int a1, .ref a0] h = (Run 126 0 [some (.ref a0), some (.int a1), some (.int a2), some (.int a3)] [] h).bind fun o => aft 164 37 40 L [] o := Rcv (c := 126) (As := [.int a1, .int a2, .int a3]) (S' := []) (pc' := 40) 9 rfl hO
set_option maxRecDepth 100000 in
theorem e164_40 {L : Lo} {S : List Value} {h : Hp} {v : Nat} : Run 164 40 (some (.ref v) :: L) S h = Run 164 41 (some (.ref v) :: L) (.ref v :: S) h := Rg rfl
set_option maxRecDepth 100000 in
theorem e164_41 {L : Lo} {S : List Value} {h : Hp} {x0 : Option Value} {v : Int32} : Run 164 41 (x0 :: some (.int v) :: L) S h = Run 164 42 (x0 :: some (.int v) :: L) (.int v :: S) h := Rg rfl
set_option maxRecDepth 100000 in
theorem e164_42 {L : Lo} {S : List Value} {h : Hp} : Run 164 42 L S h = Run 164 43 L (.int 2 :: S) h := Rg rfl
set_option maxRecDepth 100000 in
theorem e164_43 {L : Lo} {h : Hp} {a2 : Int32} {a1 : Int32} {a0 : Nat} (hO : isO h a0 9 = true) : Run 164 43 L [.int a2, .int a1, .ref a0] h = (Run 125 0 [some (.ref a0), some (.int a1), some (.int a2)] [] h).bind fun o => aft 164 43 46 L [] o := Rcv (c := 125) (As := [.int a1, .int a2]) (S' := []) (pc' := 46) 9 rfl hO
set_option maxRecDepth 100000 in
theorem e164_46 {L : Lo} {h : Hp} {x : Int32} : Run 164 46 L [.int x] h = some (.inl (some (.int x)), h) := Rd (if_pos (c := narrow .int (.int x) = .int x) rfl)
set_option maxRecDepth 100000 in
theorem e165_0 {L : Lo} {S : List Value} {h : Hp} {v : Nat} : Run 165 0 (some (.ref v) :: L) S h = Run 165 1 (some (.ref v) :: L) (.ref v :: S) h := Rg rfl
set_option maxRecDepth 100000 in
theorem e165_1 {L : Lo} {S : List Value} {h : Hp} {v : Nat} : Run 165 1 (some (.ref v) :: L) S h = Run 165 2 (some (.ref v) :: L) (.ref v :: S) h := Rg rfl
set_option maxRecDepth 100000 in
theorem e165_2 {L : Lo} {S : List Value} {h : Hp} {x0 : Option Value} {v : Int32} : Run 165 2 (x0 :: some (.int v) :: L) S h = Run 165 3 (x0 :: some (.int v) :: L) (.int v :: S) h := Rg rfl
set_option maxRecDepth 100000 in
theorem e165_3 {L : Lo} {S : List Value} {h : Hp} {x0 x1 : Option Value} {v : Int32} : Run 165 3 (x0 :: x1 :: some (.int v) :: L) S h = Run 165 4 (x0 :: x1 :: some (.int v) :: L) (.int v :: S) h := Rg rfl
set_option maxRecDepth 100000 in
theorem e165_4 {L : Lo} {h : Hp} {a3 : Int32} {a2 : Int32} {a1 : Nat} {a0 : Nat} (hO : isO h a1 9 = true) : Run 165 4 L [.int a3, .int a2, .ref a1, .ref a0] h = (Run 163 0 [some (.ref a1), some (.int a2), some (.int a3), none] [] h).bind fun o => aft 165 4 7 L [.ref a0] o := Rcv (c := 163) (As := [.int a2, .int a3]) (S' := [.ref a0]) (pc' := 7) 9 rfl hO
set_option maxRecDepth 100000 in
theorem e165_7 {L : Lo} {S : List Value} {h : Hp} {b : Nat} {v : Value} : Run 165 7 L (v :: .ref b :: S) h = (pf h 9 5 b v).bind fun h1 => Run 165 10 L S h1 := Rb rfl fun _ => rfl
set_option maxRecDepth 100000 in
theorem e165_10 {L : Lo} {S : List Value} {h : Hp} {v : Nat} : Run 165 10 (some (.ref v) :: L) S h = Run 165 11 (some (.ref v) :: L) (.ref v :: S) h := Rg rfl
set_option maxRecDepth 100000 in
theorem e165_11 {L : Lo} {S : List Value} {h : Hp} {b : Nat} : Run 165 11 L (.ref b :: S) h = (gf h 9 5 b).bind fun v => Run 165 14 L (v :: S) h := Rb rfl fun _ => rfl
set_option maxRecDepth 100000 in
theorem e165_14 {L : Lo} {S : List Value} {h : Hp} {x : Int32} : Run 165 14 L (.int x :: S) h = if x = 0 then Run 165 19 L S h else Run 165 17 L S h := Rbr (c := cnd .eq x 0 = true) (off := 5) rfl rfl cnd_eq
set_option maxRecDepth 100000 in
theorem e165_17 {L : Lo} {S : List Value} {h : Hp} : Run 165 17 L S h = Run 165 18 L (.int 0 :: S) h := Rg rfl
set_option maxRecDepth 100000 in
theorem e165_18 {L : Lo} {h : Hp} {x : Int32} : Run 165 18 L [.int x] h = some (.inl (some (.int x)), h) := Rd (if_pos (c := narrow .int (.int x) = .int x) rfl)
set_option maxRecDepth 100000 in
theorem e165_19 {L : Lo} {S : List Value} {h : Hp} {v : Nat} : Run 165 19 (some (.ref v) :: L) S h = Run 165 20 (some (.ref v) :: L) (.ref v :: S) h := Rg rfl
set_option maxRecDepth 100000 in
theorem e165_20 {L : Lo} {h : Hp} {a0 : Nat} (hO : isO h a0 9 = true) : Run 165 20 L [.ref a0] h = (Run 121 0 [some (.ref a0), none] [] h).bind fun o => aft 165 20 23 L [] o := Rcv (c := 121) (As := []) (S' := []) (pc' := 23) 9 rfl hO
set_option maxRecDepth 100000 in
theorem e165_23 {L : Lo} {S : List Value} {h : Hp} {v : Nat} : Run 165 23 (some (.ref v) :: L) S h = Run 165 24 (some (.ref v) :: L) (.ref v :: S) h := Rg rfl
set_option maxRecDepth 100000 in
theorem e165_24 {L : Lo} {S : List Value} {h : Hp} {x0 : Option Value} {v : Int32} : Run 165 24 (x0 :: some (.int v) :: L) S h = Run 165 25 (x0 :: some (.int v) :: L) (.int v :: S) h := Rg rfl
set_option maxRecDepth 100000 in
theorem e165_25 {L : Lo} {S : List Value} {h : Hp} {x0 x1 : Option Value} {v : Int32} : Run 165 25 (x0 :: x1 :: some (.int v) :: L) S h = Run 165 26 (x0 :: x1 :: some (.int v) :: L) (.int v :: S) h := Rg rfl
set_option maxRecDepth 100000 in
theorem e165_26 {L : Lo} {h : Hp} {a2 : Int32} {a1 : Int32} {a0 : Nat} (hO : isO h a0 9 = true) : Run 165 26 L [.int a2, .int a1, .ref a0] h = (Run 164 0 [some (.ref a0), some (.int a1), some (.int a2)] [] h).bind fun o => aft 165 26 29 L [] o := Rcv (c := 164) (As := [.int a1, .int a2]) (S' := []) (pc' := 29) 9 rfl hO
set_option maxRecDepth 100000 in
theorem e165_29 {L : Lo} {h : Hp} {x : Int32} : Run 165 29 L [.int x] h = some (.inl (some (.int x)), h) := Rd (if_pos (c := narrow .int (.int x) = .int x) rfl)
set_option maxRecDepth 100000 in
theorem e166_0 {L : Lo} {S : List Value} {h : Hp} : Run 166 0 L S h = Run 166 1 L (.int 0 :: S) h := Rg rfl
set_option maxRecDepth 100000 in
theorem e166_1 {L : Lo} {S : List Value} {h : Hp} {x0 : Option Value} {y : Option Value} {v : Int32} : Run 166 1 (x0 :: y :: L) (.int v :: S) h = Run 166 2 (ck x0 :: some (.int v) :: L) S h := Rg rfl
set_option maxRecDepth 100000 in
theorem e166_2 {L : Lo} {S : List Value} {h : Hp} : Run 166 2 L S h = Run 166 3 L (.int 0 :: S) h := Rg rfl
set_option maxRecDepth 100000 in
theorem e166_3 {L : Lo} {S : List Value} {h : Hp} {x0 x1 : Option Value} {y : Option Value} {v : Int32} : Run 166 3 (x0 :: x1 :: y :: L) (.int v :: S) h = Run 166 4 (x0 :: ck x1 :: some (.int v) :: L) S h := Rg rfl
set_option maxRecDepth 100000 in
theorem e166_4 {L : Lo} {S : List Value} {h : Hp} {x0 x1 : Option Value} {v : Int32} : Run 166 4 (x0 :: x1 :: some (.int v) :: L) S h = Run 166 5 (x0 :: x1 :: some (.int v) :: L) (.int v :: S) h := Rg rfl
set_option maxRecDepth 100000 in
theorem e166_5 {L : Lo} {S : List Value} {h : Hp} {v : Nat} : Run 166 5 (some (.ref v) :: L) S h = Run 166 6 (some (.ref v) :: L) (.ref v :: S) h := Rg rfl
set_option maxRecDepth 100000 in
theorem e166_6 {L : Lo} {S : List Value} {h : Hp} {b : Nat} : Run 166 6 L (.ref b :: S) h = (gf h 9 0 b).bind fun v => Run 166 9 L (v :: S) h := Rb rfl fun _ => rfl
set_option maxRecDepth 100000 in
theorem e166_9 {L : Lo} {S : List Value} {h : Hp} : Run 166 9 L S h = Run 166 10 L (.int 5 :: S) h := Rg rfl
set_option maxRecDepth 100000 in
theorem e166_10 {L : Lo} {S : List Value} {h : Hp} {i : Int32} {b : Nat} : Run 166 10 L (.int i :: .ref b :: S) h = (gaI h b i).bind fun v => Run 166 11 L (.int v :: S) h := Rb rfl fun _ => rfl
set_option maxRecDepth 100000 in
theorem e166_11 {L : Lo} {S : List Value} {h : Hp} {x z : Int32} : Run 166 11 L (.int z :: .int x :: S) h = if z ≤ x then Run 166 115 L S h else Run 166 14 L S h := Rbr (c := cnd .ge x z = true) (off := 104) rfl rfl cnd_ge
set_option maxRecDepth 100000 in
theorem e166_14 {L : Lo} {S : List Value} {h : Hp} {v : Nat} : Run 166 14 (some (.ref v) :: L) S h = Run 166 15 (some (.ref v) :: L) (.ref v :: S) h := Rg rfl
set_option maxRecDepth 100000 in
theorem e166_15 {L : Lo} {S : List Value} {h : Hp} {x0 x1 : Option Value} {v : Int32} : Run 166 15 (x0 :: x1 :: some (.int v) :: L) S h = Run 166 16 (x0 :: x1 :: some (.int v) :: L) (.int v :: S) h := Rg rfl
set_option maxRecDepth 100000 in
theorem e166_16 {L : Lo} {h : Hp} {a1 : Int32} {a0 : Nat} (hO : isO h a0 9 = true) : Run 166 16 L [.int a1, .ref a0] h = (Run 127 0 [some (.ref a0), some (.int a1)] [] h).bind fun o => aft 166 16 19 L [] o := Rcv (c := 127) (As := [.int a1]) (S' := []) (pc' := 19) 9 rfl hO
set_option maxRecDepth 100000 in
theorem e166_19 {L : Lo} {S : List Value} {h : Hp} {x : Int32} : Run 166 19 L (.int x :: S) h = if x = 0 then Run 166 55 L S h else Run 166 22 L S h := Rbr (c := cnd .eq x 0 = true) (off := 36) rfl rfl cnd_eq
set_option maxRecDepth 100000 in
theorem e166_22 {L : Lo} {S : List Value} {h : Hp} {v : Nat} : Run 166 22 (some (.ref v) :: L) S h = Run 166 23 (some (.ref v) :: L) (.ref v :: S) h := Rg rfl
set_option maxRecDepth 100000 in
theorem e166_23 {L : Lo} {S : List Value} {h : Hp} {x0 x1 : Option Value} {v : Int32} : Run 166 23 (x0 :: x1 :: some (.int v) :: L) S h = Run 166 24 (x0 :: x1 :: some (.int v) :: L) (.int v :: S) h := Rg rfl
set_option maxRecDepth 100000 in
theorem e166_24 {L : Lo} {S : List Value} {h : Hp} : Run 166 24 L S h = Run 166 25 L (.int 4 :: S) h := Rg rfl
set_option maxRecDepth 100000 in
theorem e166_25 {L : Lo} {h : Hp} {a2 : Int32} {a1 : Int32} {a0 : Nat} (hO : isO h a0 9 = true) : Run 166 25 L [.int a2, .int a1, .ref a0] h = (Run 125 0 [some (.ref a0), some (.int a1), some (.int a2)] [] h).bind fun o => aft 166 25 28 L [] o := Rcv (c := 125) (As := [.int a1, .int a2]) (S' := []) (pc' := 28) 9 rfl hO
set_option maxRecDepth 100000 in
theorem e166_28 {L : Lo} {S : List Value} {h : Hp} {x : Int32} : Run 166 28 L (.int x :: S) h = if x = 0 then Run 166 31 L S h else Run 166 55 L S h := RbrN (c := cnd .ne x 0 = true) (off := 27) rfl rfl cnd_ne
set_option maxRecDepth 100000 in
theorem e166_31 {L : Lo} {S : List Value} {h : Hp} {v : Nat} : Run 166 31 (some (.ref v) :: L) S h = Run 166 32 (some (.ref v) :: L) (.ref v :: S) h := Rg rfl
set_option maxRecDepth 100000 in
theorem e166_32 {L : Lo} {S : List Value} {h : Hp} {x0 x1 : Option Value} {v : Int32} : Run 166 32 (x0 :: x1 :: some (.int v) :: L) S h = Run 166 33 (x0 :: x1 :: some (.int v) :: L) (.int v :: S) h := Rg rfl
set_option maxRecDepth 100000 in
theorem e166_33 {L : Lo} {S : List Value} {h : Hp} : Run 166 33 L S h = Run 166 35 L (.int 11 :: S) h := Rg rfl
set_option maxRecDepth 100000 in
theorem e166_35 {L : Lo} {h : Hp} {a2 : Int32} {a1 : Int32} {a0 : Nat} (hO : isO h a0 9 = true) : Run 166 35 L [.int a2, .int a1, .ref a0] h = (Run 125 0 [some (.ref a0), some (.int a1), some (.int a2)] [] h).bind fun o => aft 166 35 38 L [] o := Rcv (c := 125) (As := [.int a1, .int a2]) (S' := []) (pc' := 38) 9 rfl hO
set_option maxRecDepth 100000 in
theorem e166_38 {L : Lo} {S : List Value} {h : Hp} : Run 166 38 L S h = Run 166 39 L (.int (-1) :: S) h := Rg rfl
set_option maxRecDepth 100000 in
theorem e166_39 {L : Lo} {S : List Value} {h : Hp} {x z : Int32} : Run 166 39 L (.int z :: .int x :: S) h = if x = z then Run 166 42 L S h else Run 166 55 L S h := RbrN (c := cnd .ne x z = true) (off := 16) rfl rfl cnd_ne
set_option maxRecDepth 100000 in
theorem e166_42 {L : Lo} {S : List Value} {h : Hp} {v : Nat} : Run 166 42 (some (.ref v) :: L) S h = Run 166 43 (some (.ref v) :: L) (.ref v :: S) h := Rg rfl
set_option maxRecDepth 100000 in
theorem e166_43 {L : Lo} {S : List Value} {h : Hp} {b : Nat} : Run 166 43 L (.ref b :: S) h = (gf h 9 0 b).bind fun v => Run 166 46 L (v :: S) h := Rb rfl fun _ => rfl
set_option maxRecDepth 100000 in
theorem e166_46 {L : Lo} {S : List Value} {h : Hp} : Run 166 46 L S h = Run 166 47 L (.int 3 :: S) h := Rg rfl
set_option maxRecDepth 100000 in
theorem e166_47 {L : Lo} {S : List Value} {h : Hp} {i : Int32} {b : Nat} : Run 166 47 L (.int i :: .ref b :: S) h = (gaI h b i).bind fun v => Run 166 48 L (.int v :: S) h := Rb rfl fun _ => rfl
set_option maxRecDepth 100000 in
theorem e166_48 {L : Lo} {S : List Value} {h : Hp} {x : Int32} : Run 166 48 L (.int x :: S) h = if x ≤ 0 then Run 166 55 L S h else Run 166 51 L S h := Rbr (c := cnd .le x 0 = true) (off := 7) rfl rfl cnd_le
set_option maxRecDepth 100000 in
theorem e166_51 {L : Lo} {S : List Value} {h : Hp} : Run 166 51 L S h = Run 166 52 L (.int 1 :: S) h := Rg rfl
set_option maxRecDepth 100000 in
theorem e166_52 {L : Lo} {S : List Value} {h : Hp} : Run 166 52 L S h = Run 166 56 L S h := Rg rfl
set_option maxRecDepth 100000 in
theorem e166_55 {L : Lo} {S : List Value} {h : Hp} : Run 166 55 L S h = Run 166 56 L (.int 0 :: S) h := Rg rfl
set_option maxRecDepth 100000 in
theorem e166_56 {L : Lo} {S : List Value} {h : Hp} {x0 x1 x2 : Option Value} {y : Option Value} {v : Int32} : Run 166 56 (x0 :: x1 :: x2 :: y :: L) (.int v :: S) h = Run 166 57 (x0 :: x1 :: ck x2 :: some (.int v) :: L) S h := Rg rfl
set_option maxRecDepth 100000 in
theorem e166_57 {L : Lo} {S : List Value} {h : Hp} {x0 x1 x2 : Option Value} {v : Int32} : Run 166 57 (x0 :: x1 :: x2 :: some (.int v) :: L) S h = Run 166 58 (x0 :: x1 :: x2 :: some (.int v) :: L) (.int v :: S) h := Rg rfl
set_option maxRecDepth 100000 in
theorem e166_58 {L : Lo} {S : List Value} {h : Hp} {x : Int32} : Run 166 58 L (.int x :: S) h = if x = 0 then Run 166 109 L S h else Run 166 61 L S h := Rbr (c := cnd .eq x 0 = true) (off := 51) rfl rfl cnd_eq
set_option maxRecDepth 100000 in
theorem e166_61 {L : Lo} {S : List Value} {h : Hp} {v : Nat} : Run 166 61 (some (.ref v) :: L) S h = Run 166 62 (some (.ref v) :: L) (.ref v :: S) h := Rg rfl
set_option maxRecDepth 100000 in
theorem e166_62 {L : Lo} {S : List Value} {h : Hp} {v : Nat} : Run 166 62 (some (.ref v) :: L) S h = Run 166 63 (some (.ref v) :: L) (.ref v :: S) h := Rg rfl
set_option maxRecDepth 100000 in
theorem e166_63 {L : Lo} {S : List Value} {h : Hp} {v : Nat} : Run 166 63 (some (.ref v) :: L) S h = Run 166 64 (some (.ref v) :: L) (.ref v :: S) h := Rg rfl
set_option maxRecDepth 100000 in
theorem e166_64 {L : Lo} {S : List Value} {h : Hp} {x0 x1 : Option Value} {v : Int32} : Run 166 64 (x0 :: x1 :: some (.int v) :: L) S h = Run 166 65 (x0 :: x1 :: some (.int v) :: L) (.int v :: S) h := Rg rfl
set_option maxRecDepth 100000 in
theorem e166_65 {L : Lo} {S : List Value} {h : Hp} : Run 166 65 L S h = Run 166 66 L (.int 1 :: S) h := Rg rfl
set_option maxRecDepth 100000 in
theorem e166_66 {L : Lo} {h : Hp} {a4 : Int32} {a3 : Int32} {a2 : Nat} {a1 : Nat} {a0 : Nat} (hO : isO h a2 9 = true) : Run 166 66 L [.int a4, .int a3, .ref a2, .ref a1, .ref a0] h = (Run 125 0 [some (.ref a2), some (.int a3), some (.int a4)] [] h).bind fun o => aft 166 66 69 L [.ref a1, .ref a0] o := Rcv (c := 125) (As := [.int a3, .int a4]) (S' := [.ref a1, .ref a0]) (pc' := 69) 9 rfl hO
set_option maxRecDepth 100000 in
theorem e166_69 {L : Lo} {S : List Value} {h : Hp} {v : Nat} : Run 166 69 (some (.ref v) :: L) S h = Run 166 70 (some (.ref v) :: L) (.ref v :: S) h := Rg rfl
set_option maxRecDepth 100000 in
theorem e166_70 {L : Lo} {S : List Value} {h : Hp} {b : Nat} : Run 166 70 L (.ref b :: S) h = (gf h 9 0 b).bind fun v => Run 166 73 L (v :: S) h := Rb rfl fun _ => rfl
set_option maxRecDepth 100000 in
theorem e166_73 {L : Lo} {S : List Value} {h : Hp} : Run 166 73 L S h = Run 166 74 L (.int 2 :: S) h := Rg rfl
set_option maxRecDepth 100000 in
theorem e166_74 {L : Lo} {S : List Value} {h : Hp} {i : Int32} {b : Nat} : Run 166 74 L (.int i :: .ref b :: S) h = (gaI h b i).bind fun v => Run 166 75 L (.int v :: S) h := Rb rfl fun _ => rfl
set_option maxRecDepth 100000 in
theorem e166_75 {L : Lo} {h : Hp} {a3 : Int32} {a2 : Int32} {a1 : Nat} {a0 : Nat} (hO : isO h a1 9 = true) : Run 166 75 L [.int a3, .int a2, .ref a1, .ref a0] h = (Run 130 0 [some (.ref a1), some (.int a2), some (.int a3), none, none] [] h).bind fun o => aft 166 75 78 L [.ref a0] o := Rcv (c := 130) (As := [.int a2, .int a3]) (S' := [.ref a0]) (pc' := 78) 9 rfl hO
set_option maxRecDepth 100000 in
theorem e166_78 {L : Lo} {h : Hp} {a1 : Int32} {a0 : Nat} (hO : isO h a0 9 = true) : Run 166 78 L [.int a1, .ref a0] h = (Run 133 0 [some (.ref a0), some (.int a1)] [] h).bind fun o => aft 166 78 81 L [] o := Rcv (c := 133) (As := [.int a1]) (S' := []) (pc' := 81) 9 rfl hO
set_option maxRecDepth 100000 in
theorem e166_81 {L : Lo} {S : List Value} {h : Hp} {x : Int32} : Run 166 81 L (.int x :: S) h = if x = 0 then Run 166 109 L S h else Run 166 84 L S h := Rbr (c := cnd .eq x 0 = true) (off := 28) rfl rfl cnd_eq
set_option maxRecDepth 100000 in
theorem e166_84 {L : Lo} {S : List Value} {h : Hp} {v : Nat} : Run 166 84 (some (.ref v) :: L) S h = Run 166 85 (some (.ref v) :: L) (.ref v :: S) h := Rg rfl
set_option maxRecDepth 100000 in
theorem e166_85 {L : Lo} {S : List Value} {h : Hp} {x0 x1 : Option Value} {v : Int32} : Run 166 85 (x0 :: x1 :: some (.int v) :: L) S h = Run 166 86 (x0 :: x1 :: some (.int v) :: L) (.int v :: S) h := Rg rfl
set_option maxRecDepth 100000 in
theorem e166_86 {L : Lo} {S : List Value} {h : Hp} : Run 166 86 L S h = Run 166 87 L (.int 1 :: S) h := Rg rfl
set_option maxRecDepth 100000 in
theorem e166_87 {L : Lo} {S : List Value} {h : Hp} {v : Nat} : Run 166 87 (some (.ref v) :: L) S h = Run 166 88 (some (.ref v) :: L) (.ref v :: S) h := Rg rfl
set_option maxRecDepth 100000 in
theorem e166_88 {L : Lo} {S : List Value} {h : Hp} {v : Nat} : Run 166 88 (some (.ref v) :: L) S h = Run 166 89 (some (.ref v) :: L) (.ref v :: S) h := Rg rfl
set_option maxRecDepth 100000 in
theorem e166_89 {L : Lo} {S : List Value} {h : Hp} {x0 x1 : Option Value} {v : Int32} : Run 166 89 (x0 :: x1 :: some (.int v) :: L) S h = Run 166 90 (x0 :: x1 :: some (.int v) :: L) (.int v :: S) h := Rg rfl
set_option maxRecDepth 100000 in
theorem e166_90 {L : Lo} {S : List Value} {h : Hp} : Run 166 90 L S h = Run 166 91 L (.int 1 :: S) h := Rg rfl
set_option maxRecDepth 100000 in
theorem e166_91 {L : Lo} {h : Hp} {a6 : Int32} {a5 : Int32} {a4 : Nat} {a3 : Nat} {a2 : Int32} {a1 : Int32} {a0 : Nat} (hO : isO h a4 9 = true) : Run 166 91 L [.int a6, .int a5, .ref a4, .ref a3, .int a2, .int a1, .ref a0] h = (Run 125 0 [some (.ref a4), some (.int a5), some (.int a6)] [] h).bind fun o => aft 166 91 94 L [.ref a3, .int a2, .int a1, .ref a0] o := Rcv (c := 125) (As := [.int a5, .int a6]) (S' := [.ref a3, .int a2, .int a1, .ref a0]) (pc' := 94) 9 rfl hO
set_option maxRecDepth 100000 in
theorem e166_94 {L : Lo} {S : List Value} {h : Hp} {v : Nat} : Run 166 94 (some (.ref v) :: L) S h = Run 166 95 (some (.ref v) :: L) (.ref v :: S) h := Rg rfl
set_option maxRecDepth 100000 in
theorem e166_95 {L : Lo} {S : List Value} {h : Hp} {b : Nat} : Run 166 95 L (.ref b :: S) h = (gf h 9 0 b).bind fun v => Run 166 98 L (v :: S) h := Rb rfl fun _ => rfl
set_option maxRecDepth 100000 in
theorem e166_98 {L : Lo} {S : List Value} {h : Hp} : Run 166 98 L S h = Run 166 99 L (.int 2 :: S) h := Rg rfl
set_option maxRecDepth 100000 in
theorem e166_99 {L : Lo} {S : List Value} {h : Hp} {i : Int32} {b : Nat} : Run 166 99 L (.int i :: .ref b :: S) h = (gaI h b i).bind fun v => Run 166 100 L (.int v :: S) h := Rb rfl fun _ => rfl
set_option maxRecDepth 100000 in
theorem e166_100 {L : Lo} {h : Hp} {a5 : Int32} {a4 : Int32} {a3 : Nat} {a2 : Int32} {a1 : Int32} {a0 : Nat} (hO : isO h a3 9 = true) : Run 166 100 L [.int a5, .int a4, .ref a3, .int a2, .int a1, .ref a0] h = (Run 130 0 [some (.ref a3), some (.int a4), some (.int a5), none, none] [] h).bind fun o => aft 166 100 103 L [.int a2, .int a1, .ref a0] o := Rcv (c := 130) (As := [.int a4, .int a5]) (S' := [.int a2, .int a1, .ref a0]) (pc' := 103) 9 rfl hO
set_option maxRecDepth 100000 in
theorem e166_103 {L : Lo} {h : Hp} {a3 : Int32} {a2 : Int32} {a1 : Int32} {a0 : Nat} (hO : isO h a0 9 = true) : Run 166 103 L [.int a3, .int a2, .int a1, .ref a0] h = (Run 126 0 [some (.ref a0), some (.int a1), some (.int a2), some (.int a3)] [] h).bind fun o => aft 166 103 106 L [] o := Rcv (c := 126) (As := [.int a1, .int a2, .int a3]) (S' := []) (pc' := 106) 9 rfl hO
set_option maxRecDepth 100000 in
theorem e166_106 {L : Lo} {S : List Value} {h : Hp} {x0 : Option Value} {v : Int32} : Run 166 106 (x0 :: some (.int v) :: L) S h = Run 166 109 (x0 :: some (.int (v + 1)) :: L) S h := Rg rfl
set_option maxRecDepth 100000 in
theorem e166_109 {L : Lo} {S : List Value} {h : Hp} {x0 x1 : Option Value} {v : Int32} : Run 166 109 (x0 :: x1 :: some (.int v) :: L) S h = Run 166 112 (x0 :: x1 :: some (.int (v + 1)) :: L) S h := Rg rfl
set_option maxRecDepth 100000 in
theorem e166_112 {L : Lo} {S : List Value} {h : Hp} : Run 166 112 L S h = Run 166 4 L S h := Rg rfl
set_option maxRecDepth 100000 in
theorem e166_115 {L : Lo} {S : List Value} {h : Hp} {v : Nat} : Run 166 115 (some (.ref v) :: L) S h = Run 166 116 (some (.ref v) :: L) (.ref v :: S) h := Rg rfl
set_option maxRecDepth 100000 in
theorem e166_116 {L : Lo} {S : List Value} {h : Hp} {b : Nat} : Run 166 116 L (.ref b :: S) h = (gf h 9 0 b).bind fun v => Run 166 119 L (v :: S) h := Rb rfl fun _ => rfl
set_option maxRecDepth 100000 in
theorem e166_119 {L : Lo} {S : List Value} {h : Hp} : Run 166 119 L S h = Run 166 120 L (.int 4 :: S) h := Rg rfl
set_option maxRecDepth 100000 in
theorem e166_120 {L : Lo} {S : List Value} {h : Hp} {v : Int32} {w : Nat} : Run 166 120 L (.int v :: .ref w :: S) h = Run 166 121 L (.int v :: .ref w :: .int v :: .ref w :: S) h := Rg rfl
set_option maxRecDepth 100000 in
theorem e166_121 {L : Lo} {S : List Value} {h : Hp} {i : Int32} {b : Nat} : Run 166 121 L (.int i :: .ref b :: S) h = (gaI h b i).bind fun v => Run 166 122 L (.int v :: S) h := Rb rfl fun _ => rfl
set_option maxRecDepth 100000 in
theorem e166_122 {L : Lo} {S : List Value} {h : Hp} : Run 166 122 L S h = Run 166 123 L (.int 1 :: S) h := Rg rfl
set_option maxRecDepth 100000 in
theorem e166_123 {L : Lo} {S : List Value} {h : Hp} {x z : Int32} : Run 166 123 L (.int z :: .int x :: S) h = Run 166 124 L (.int (x + z) :: S) h := Rg rfl
set_option maxRecDepth 100000 in
theorem e166_124 {L : Lo} {S : List Value} {h : Hp} {v : Int32} {i : Int32} {b : Nat} : Run 166 124 L (.int v :: .int i :: .ref b :: S) h = (paI h b i v).bind fun h1 => Run 166 125 L S h1 := Rb rfl fun _ => rfl
set_option maxRecDepth 100000 in
theorem e166_125 {L : Lo} {S : List Value} {h : Hp} : Run 166 125 L S h = Run 166 126 L (.int 0 :: S) h := Rg rfl
set_option maxRecDepth 100000 in
theorem e166_126 {L : Lo} {S : List Value} {h : Hp} {x0 x1 : Option Value} {y : Option Value} {v : Int32} : Run 166 126 (x0 :: x1 :: y :: L) (.int v :: S) h = Run 166 127 (x0 :: ck x1 :: some (.int v) :: L) S h := Rg rfl
set_option maxRecDepth 100000 in
theorem e166_127 {L : Lo} {S : List Value} {h : Hp} {x0 x1 : Option Value} {v : Int32} : Run 166 127 (x0 :: x1 :: some (.int v) :: L) S h = Run 166 128 (x0 :: x1 :: some (.int v) :: L) (.int v :: S) h := Rg rfl
set_option maxRecDepth 100000 in
theorem e166_128 {L : Lo} {S : List Value} {h : Hp} {v : Nat} : Run 166 128 (some (.ref v) :: L) S h = Run 166 129 (some (.ref v) :: L) (.ref v :: S) h := Rg rfl
set_option maxRecDepth 100000 in
theorem e166_129 {L : Lo} {S : List Value} {h : Hp} {b : Nat} : Run 166 129 L (.ref b :: S) h = (gf h 9 0 b).bind fun v => Run 166 132 L (v :: S) h := Rb rfl fun _ => rfl
set_option maxRecDepth 100000 in
theorem e166_132 {L : Lo} {S : List Value} {h : Hp} : Run 166 132 L S h = Run 166 133 L (.int 5 :: S) h := Rg rfl
set_option maxRecDepth 100000 in
theorem e166_133 {L : Lo} {S : List Value} {h : Hp} {i : Int32} {b : Nat} : Run 166 133 L (.int i :: .ref b :: S) h = (gaI h b i).bind fun v => Run 166 134 L (.int v :: S) h := Rb rfl fun _ => rfl
set_option maxRecDepth 100000 in
theorem e166_134 {L : Lo} {S : List Value} {h : Hp} {x z : Int32} : Run 166 134 L (.int z :: .int x :: S) h = if z ≤ x then Run 166 197 L S h else Run 166 137 L S h := Rbr (c := cnd .ge x z = true) (off := 63) rfl rfl cnd_ge
set_option maxRecDepth 100000 in
theorem e166_137 {L : Lo} {S : List Value} {h : Hp} : Run 166 137 L S h = Run 166 138 L (.int 0 :: S) h := Rg rfl
set_option maxRecDepth 100000 in
theorem e166_138 {L : Lo} {S : List Value} {h : Hp} {x0 x1 x2 : Option Value} {y : Option Value} {v : Int32} : Run 166 138 (x0 :: x1 :: x2 :: y :: L) (.int v :: S) h = Run 166 139 (x0 :: x1 :: ck x2 :: some (.int v) :: L) S h := Rg rfl
set_option maxRecDepth 100000 in
theorem e166_139 {L : Lo} {S : List Value} {h : Hp} {x0 x1 x2 : Option Value} {v : Int32} : Run 166 139 (x0 :: x1 :: x2 :: some (.int v) :: L) S h = Run 166 140 (x0 :: x1 :: x2 :: some (.int v) :: L) (.int v :: S) h := Rg rfl
set_option maxRecDepth 100000 in
theorem e166_140 {L : Lo} {S : List Value} {h : Hp} : Run 166 140 L S h = Run 166 141 L (.int 2 :: S) h := Rg rfl
set_option maxRecDepth 100000 in
theorem e166_141 {L : Lo} {S : List Value} {h : Hp} {x z : Int32} : Run 166 141 L (.int z :: .int x :: S) h = if z ≤ x then Run 166 186 L S h else Run 166 144 L S h := Rbr (c := cnd .ge x z = true) (off := 45) rfl rfl cnd_ge
set_option maxRecDepth 100000 in
theorem e166_144 {L : Lo} {S : List Value} {h : Hp} {v : Nat} : Run 166 144 (some (.ref v) :: L) S h = Run 166 145 (some (.ref v) :: L) (.ref v :: S) h := Rg rfl
set_option maxRecDepth 100000 in
theorem e166_145 {L : Lo} {S : List Value} {h : Hp} {x0 x1 : Option Value} {v : Int32} : Run 166 145 (x0 :: x1 :: some (.int v) :: L) S h = Run 166 146 (x0 :: x1 :: some (.int v) :: L) (.int v :: S) h := Rg rfl
set_option maxRecDepth 100000 in
theorem e166_146 {L : Lo} {S : List Value} {h : Hp} : Run 166 146 L S h = Run 166 148 L (.int 9 :: S) h := Rg rfl
set_option maxRecDepth 100000 in
theorem e166_148 {L : Lo} {S : List Value} {h : Hp} {x0 x1 x2 : Option Value} {v : Int32} : Run 166 148 (x0 :: x1 :: x2 :: some (.int v) :: L) S h = Run 166 149 (x0 :: x1 :: x2 :: some (.int v) :: L) (.int v :: S) h := Rg rfl
set_option maxRecDepth 100000 in
theorem e166_149 {L : Lo} {S : List Value} {h : Hp} {x z : Int32} : Run 166 149 L (.int z :: .int x :: S) h = Run 166 150 L (.int (x + z) :: S) h := Rg rfl
set_option maxRecDepth 100000 in
theorem e166_150 {L : Lo} {S : List Value} {h : Hp} {v : Nat} : Run 166 150 (some (.ref v) :: L) S h = Run 166 151 (some (.ref v) :: L) (.ref v :: S) h := Rg rfl
set_option maxRecDepth 100000 in
theorem e166_151 {L : Lo} {S : List Value} {h : Hp} {x0 x1 : Option Value} {v : Int32} : Run 166 151 (x0 :: x1 :: some (.int v) :: L) S h = Run 166 152 (x0 :: x1 :: some (.int v) :: L) (.int v :: S) h := Rg rfl
set_option maxRecDepth 100000 in
theorem e166_152 {L : Lo} {S : List Value} {h : Hp} : Run 166 152 L S h = Run 166 154 L (.int 9 :: S) h := Rg rfl
set_option maxRecDepth 100000 in
theorem e166_154 {L : Lo} {S : List Value} {h : Hp} {x0 x1 x2 : Option Value} {v : Int32} : Run 166 154 (x0 :: x1 :: x2 :: some (.int v) :: L) S h = Run 166 155 (x0 :: x1 :: x2 :: some (.int v) :: L) (.int v :: S) h := Rg rfl
set_option maxRecDepth 100000 in
theorem e166_155 {L : Lo} {S : List Value} {h : Hp} {x z : Int32} : Run 166 155 L (.int z :: .int x :: S) h = Run 166 156 L (.int (x + z) :: S) h := Rg rfl
set_option maxRecDepth 100000 in
theorem e166_156 {L : Lo} {h : Hp} {a5 : Int32} {a4 : Int32} {a3 : Nat} {a2 : Int32} {a1 : Int32} {a0 : Nat} (hO : isO h a3 9 = true) : Run 166 156 L [.int a5, .int a4, .ref a3, .int a2, .int a1, .ref a0] h = (Run 125 0 [some (.ref a3), some (.int a4), some (.int a5)] [] h).bind fun o => aft 166 156 159 L [.int a2, .int a1, .ref a0] o := Rcv (c := 125) (As := [.int a4, .int a5]) (S' := [.int a2, .int a1, .ref a0]) (pc' := 159) 9 rfl hO
set_option maxRecDepth 100000 in
theorem e166_159 {L : Lo} {S : List Value} {h : Hp} {x : Int32} : Run 166 159 L (.int x :: S) h = if x ≤ 0 then Run 166 176 L S h else Run 166 162 L S h := Rbr (c := cnd .le x 0 = true) (off := 17) rfl rfl cnd_le
set_option maxRecDepth 100000 in
theorem e166_162 {L : Lo} {S : List Value} {h : Hp} {v : Nat} : Run 166 162 (some (.ref v) :: L) S h = Run 166 163 (some (.ref v) :: L) (.ref v :: S) h := Rg rfl
set_option maxRecDepth 100000 in
theorem e166_163 {L : Lo} {S : List Value} {h : Hp} {x0 x1 : Option Value} {v : Int32} : Run 166 163 (x0 :: x1 :: some (.int v) :: L) S h = Run 166 164 (x0 :: x1 :: some (.int v) :: L) (.int v :: S) h := Rg rfl
set_option maxRecDepth 100000 in
theorem e166_164 {L : Lo} {S : List Value} {h : Hp} : Run 166 164 L S h = Run 166 166 L (.int 9 :: S) h := Rg rfl
set_option maxRecDepth 100000 in
theorem e166_166 {L : Lo} {S : List Value} {h : Hp} {x0 x1 x2 : Option Value} {v : Int32} : Run 166 166 (x0 :: x1 :: x2 :: some (.int v) :: L) S h = Run 166 167 (x0 :: x1 :: x2 :: some (.int v) :: L) (.int v :: S) h := Rg rfl
set_option maxRecDepth 100000 in
theorem e166_167 {L : Lo} {S : List Value} {h : Hp} {x z : Int32} : Run 166 167 L (.int z :: .int x :: S) h = Run 166 168 L (.int (x + z) :: S) h := Rg rfl
set_option maxRecDepth 100000 in
theorem e166_168 {L : Lo} {h : Hp} {a5 : Int32} {a4 : Int32} {a3 : Nat} {a2 : Int32} {a1 : Int32} {a0 : Nat} (hO : isO h a3 9 = true) : Run 166 168 L [.int a5, .int a4, .ref a3, .int a2, .int a1, .ref a0] h = (Run 125 0 [some (.ref a3), some (.int a4), some (.int a5)] [] h).bind fun o => aft 166 168 171 L [.int a2, .int a1, .ref a0] o := Rcv (c := 125) (As := [.int a4, .int a5]) (S' := [.int a2, .int a1, .ref a0]) (pc' := 171) 9 rfl hO
set_option maxRecDepth 100000 in
theorem e166_171 {L : Lo} {S : List Value} {h : Hp} : Run 166 171 L S h = Run 166 172 L (.int 1 :: S) h := Rg rfl
set_option maxRecDepth 100000 in
theorem e166_172 {L : Lo} {S : List Value} {h : Hp} {x z : Int32} : Run 166 172 L (.int z :: .int x :: S) h = Run 166 173 L (.int (x - z) :: S) h := Rg rfl
set_option maxRecDepth 100000 in
theorem e166_173 {L : Lo} {S : List Value} {h : Hp} : Run 166 173 L S h = Run 166 177 L S h := Rg rfl
set_option maxRecDepth 100000 in
theorem e166_176 {L : Lo} {S : List Value} {h : Hp} : Run 166 176 L S h = Run 166 177 L (.int 0 :: S) h := Rg rfl
set_option maxRecDepth 100000 in
theorem e166_177 {L : Lo} {h : Hp} {a3 : Int32} {a2 : Int32} {a1 : Int32} {a0 : Nat} (hO : isO h a0 9 = true) : Run 166 177 L [.int a3, .int a2, .int a1, .ref a0] h = (Run 126 0 [some (.ref a0), some (.int a1), some (.int a2), some (.int a3)] [] h).bind fun o => aft 166 177 180 L [] o := Rcv (c := 126) (As := [.int a1, .int a2, .int a3]) (S' := []) (pc' := 180) 9 rfl hO
set_option maxRecDepth 100000 in
theorem e166_180 {L : Lo} {S : List Value} {h : Hp} {x0 x1 x2 : Option Value} {v : Int32} : Run 166 180 (x0 :: x1 :: x2 :: some (.int v) :: L) S h = Run 166 183 (x0 :: x1 :: x2 :: some (.int (v + 1)) :: L) S h := Rg rfl
set_option maxRecDepth 100000 in
theorem e166_183 {L : Lo} {S : List Value} {h : Hp} : Run 166 183 L S h = Run 166 139 L S h := Rg rfl
set_option maxRecDepth 100000 in
theorem e166_186 {L : Lo} {S : List Value} {h : Hp} {v : Nat} : Run 166 186 (some (.ref v) :: L) S h = Run 166 187 (some (.ref v) :: L) (.ref v :: S) h := Rg rfl
set_option maxRecDepth 100000 in
theorem e166_187 {L : Lo} {S : List Value} {h : Hp} {x0 x1 : Option Value} {v : Int32} : Run 166 187 (x0 :: x1 :: some (.int v) :: L) S h = Run 166 188 (x0 :: x1 :: some (.int v) :: L) (.int v :: S) h := Rg rfl
set_option maxRecDepth 100000 in
theorem e166_188 {L : Lo} {h : Hp} {a1 : Int32} {a0 : Nat} (hO : isO h a0 9 = true) : Run 166 188 L [.int a1, .ref a0] h = (Run 146 0 [some (.ref a0), some (.int a1), none] [] h).bind fun o => aft 166 188 191 L [] o := Rcv (c := 146) (As := [.int a1]) (S' := []) (pc' := 191) 9 rfl hO
set_option maxRecDepth 100000 in
theorem e166_191 {L : Lo} {S : List Value} {h : Hp} {x0 x1 : Option Value} {v : Int32} : Run 166 191 (x0 :: x1 :: some (.int v) :: L) S h = Run 166 194 (x0 :: x1 :: some (.int (v + 1)) :: L) S h := Rg rfl
set_option maxRecDepth 100000 in
theorem e166_194 {L : Lo} {S : List Value} {h : Hp} : Run 166 194 L S h = Run 166 127 L S h := Rg rfl
set_option maxRecDepth 100000 in
theorem e166_197 {L : Lo} {S : List Value} {h : Hp} {x0 : Option Value} {v : Int32} : Run 166 197 (x0 :: some (.int v) :: L) S h = Run 166 198 (x0 :: some (.int v) :: L) (.int v :: S) h := Rg rfl
set_option maxRecDepth 100000 in
theorem e166_198 {L : Lo} {h : Hp} {x : Int32} : Run 166 198 L [.int x] h = some (.inl (some (.int x)), h) := Rd (if_pos (c := narrow .int (.int x) = .int x) rfl)
set_option maxRecDepth 100000 in
theorem e167_0 {L : Lo} {S : List Value} {h : Hp} {v : Nat} : Run 167 0 (some (.ref v) :: L) S h = Run 167 1 (some (.ref v) :: L) (.ref v :: S) h := Rg rfl
set_option maxRecDepth 100000 in
theorem e167_1 {L : Lo} {S : List Value} {h : Hp} : Run 167 1 L S h = Run 167 2 L (.int 0 :: S) h := Rg rfl
set_option maxRecDepth 100000 in
theorem e167_2 {L : Lo} {S : List Value} {h : Hp} {b : Nat} {v : Value} : Run 167 2 L (v :: .ref b :: S) h = (pf h 9 5 b v).bind fun h1 => Run 167 5 L S h1 := Rb rfl fun _ => rfl
set_option maxRecDepth 100000 in
theorem e167_5 {L : Lo} {S : List Value} {h : Hp} {v : Nat} : Run 167 5 (some (.ref v) :: L) S h = Run 167 6 (some (.ref v) :: L) (.ref v :: S) h := Rg rfl
set_option maxRecDepth 100000 in
theorem e167_6 {L : Lo} {h : Hp} {a0 : Nat} (hO : isO h a0 9 = true) : Run 167 6 L [.ref a0] h = (Run 121 0 [some (.ref a0), none] [] h).bind fun o => aft 167 6 9 L [] o := Rcv (c := 121) (As := []) (S' := []) (pc' := 9) 9 rfl hO
set_option maxRecDepth 100000 in
theorem e167_9 {L : Lo} {S : List Value} {h : Hp} {v : Nat} : Run 167 9 (some (.ref v) :: L) S h = Run 167 10 (some (.ref v) :: L) (.ref v :: S) h := Rg rfl
set_option maxRecDepth 100000 in
theorem e167_10 {L : Lo} {h : Hp} {a0 : Nat} (hO : isO h a0 9 = true) : Run 167 10 L [.ref a0] h = (Run 166 0 [some (.ref a0), none, none, none] [] h).bind fun o => aft 167 10 13 L [] o := Rcv (c := 166) (As := []) (S' := []) (pc' := 13) 9 rfl hO
set_option maxRecDepth 100000 in
theorem e167_13 {L : Lo} {h : Hp} {x : Int32} : Run 167 13 L [.int x] h = some (.inl (some (.int x)), h) := Rd (if_pos (c := narrow .int (.int x) = .int x) rfl)
set_option maxRecDepth 100000 in
theorem e168_0 {L : Lo} {S : List Value} {h : Hp} {v : Nat} : Run 168 0 (some (.ref v) :: L) S h = Run 168 1 (some (.ref v) :: L) (.ref v :: S) h := Rg rfl
set_option maxRecDepth 100000 in
theorem e168_1 {L : Lo} {S : List Value} {h : Hp} {v : Nat} : Run 168 1 (some (.ref v) :: L) S h = Run 168 2 (some (.ref v) :: L) (.ref v :: S) h := Rg rfl
set_option maxRecDepth 100000 in
theorem e168_2 {L : Lo} {S : List Value} {h : Hp} {x0 x1 : Option Value} {v : Int32} : Run 168 2 (x0 :: x1 :: some (.int v) :: L) S h = Run 168 3 (x0 :: x1 :: some (.int v) :: L) (.int v :: S) h := Rg rfl
set_option maxRecDepth 100000 in
theorem e168_3 {L : Lo} {S : List Value} {h : Hp} : Run 168 3 L S h = Run 168 4 L (.int 1 :: S) h := Rg rfl
set_option maxRecDepth 100000 in
theorem e168_4 {L : Lo} {h : Hp} {a3 : Int32} {a2 : Int32} {a1 : Nat} {a0 : Nat} (hO : isO h a1 9 = true) : Run 168 4 L [.int a3, .int a2, .ref a1, .ref a0] h = (Run 125 0 [some (.ref a1), some (.int a2), some (.int a3)] [] h).bind fun o => aft 168 4 7 L [.ref a0] o := Rcv (c := 125) (As := [.int a2, .int a3]) (S' := [.ref a0]) (pc' := 7) 9 rfl hO
set_option maxRecDepth 100000 in
theorem e168_7 {L : Lo} {S : List Value} {h : Hp} {v : Nat} : Run 168 7 (some (.ref v) :: L) S h = Run 168 8 (some (.ref v) :: L) (.ref v :: S) h := Rg rfl
set_option maxRecDepth 100000 in
theorem e168_8 {L : Lo} {S : List Value} {h : Hp} {x0 : Option Value} {v : Int32} : Run 168 8 (x0 :: some (.int v) :: L) S h = Run 168 9 (x0 :: some (.int v) :: L) (.int v :: S) h := Rg rfl
set_option maxRecDepth 100000 in
theorem e168_9 {L : Lo} {S : List Value} {h : Hp} : Run 168 9 L S h = Run 168 10 L (.int 1 :: S) h := Rg rfl
set_option maxRecDepth 100000 in
theorem e168_10 {L : Lo} {h : Hp} {a4 : Int32} {a3 : Int32} {a2 : Nat} {a1 : Int32} {a0 : Nat} (hO : isO h a2 9 = true) : Run 168 10 L [.int a4, .int a3, .ref a2, .int a1, .ref a0] h = (Run 125 0 [some (.ref a2), some (.int a3), some (.int a4)] [] h).bind fun o => aft 168 10 13 L [.int a1, .ref a0] o := Rcv (c := 125) (As := [.int a3, .int a4]) (S' := [.int a1, .ref a0]) (pc' := 13) 9 rfl hO
set_option maxRecDepth 100000 in
theorem e168_13 {L : Lo} {h : Hp} {a2 : Int32} {a1 : Int32} {a0 : Nat} (hO : isO h a0 9 = true) : Run 168 13 L [.int a2, .int a1, .ref a0] h = (Run 137 0 [some (.ref a0), some (.int a1), some (.int a2), none, none, none, none, none, none, none] [] h).bind fun o => aft 168 13 16 L [] o := Rcv (c := 137) (As := [.int a1, .int a2]) (S' := []) (pc' := 16) 9 rfl hO
set_option maxRecDepth 100000 in
theorem e168_16 {L : Lo} {S : List Value} {h : Hp} {x0 x1 x2 : Option Value} {y : Option Value} {v : Int32} : Run 168 16 (x0 :: x1 :: x2 :: y :: L) (.int v :: S) h = Run 168 17 (x0 :: x1 :: ck x2 :: some (.int v) :: L) S h := Rg rfl
set_option maxRecDepth 100000 in
theorem e168_17 {L : Lo} {S : List Value} {h : Hp} {x0 x1 x2 : Option Value} {v : Int32} : Run 168 17 (x0 :: x1 :: x2 :: some (.int v) :: L) S h = Run 168 18 (x0 :: x1 :: x2 :: some (.int v) :: L) (.int v :: S) h := Rg rfl
set_option maxRecDepth 100000 in
theorem e168_18 {L : Lo} {S : List Value} {h : Hp} : Run 168 18 L S h = Run 168 20 L (.int 10 :: S) h := Rg rfl
set_option maxRecDepth 100000 in
theorem e168_20 {L : Lo} {S : List Value} {h : Hp} {x z : Int32} : Run 168 20 L (.int z :: .int x :: S) h = if x < z then Run 168 46 L S h else Run 168 23 L S h := Rbr (c := cnd .lt x z = true) (off := 26) rfl rfl cnd_lt
set_option maxRecDepth 100000 in
theorem e168_23 {L : Lo} {S : List Value} {h : Hp} {x0 x1 x2 : Option Value} {v : Int32} : Run 168 23 (x0 :: x1 :: x2 :: some (.int v) :: L) S h = Run 168 24 (x0 :: x1 :: x2 :: some (.int v) :: L) (.int v :: S) h := Rg rfl
set_option maxRecDepth 100000 in
theorem e168_24 {L : Lo} {S : List Value} {h : Hp} : Run 168 24 L S h = Run 168 26 L (.int 10 :: S) h := Rg rfl
set_option maxRecDepth 100000 in
theorem e168_26 {L : Lo} {S : List Value} {h : Hp} {x z : Int32} : Run 168 26 L (.int z :: .int x :: S) h = Run 168 27 L (.int (x - z) :: S) h := Rg rfl
set_option maxRecDepth 100000 in
theorem e168_27 {L : Lo} {S : List Value} {h : Hp} {v : Nat} : Run 168 27 (some (.ref v) :: L) S h = Run 168 28 (some (.ref v) :: L) (.ref v :: S) h := Rg rfl
set_option maxRecDepth 100000 in
theorem e168_28 {L : Lo} {S : List Value} {h : Hp} {x0 x1 : Option Value} {v : Int32} : Run 168 28 (x0 :: x1 :: some (.int v) :: L) S h = Run 168 29 (x0 :: x1 :: some (.int v) :: L) (.int v :: S) h := Rg rfl
set_option maxRecDepth 100000 in
theorem e168_29 {L : Lo} {S : List Value} {h : Hp} : Run 168 29 L S h = Run 168 30 L (.int 2 :: S) h := Rg rfl
set_option maxRecDepth 100000 in
theorem e168_30 {L : Lo} {h : Hp} {a3 : Int32} {a2 : Int32} {a1 : Nat} {a0 : Int32} (hO : isO h a1 9 = true) : Run 168 30 L [.int a3, .int a2, .ref a1, .int a0] h = (Run 125 0 [some (.ref a1), some (.int a2), some (.int a3)] [] h).bind fun o => aft 168 30 33 L [.int a0] o := Rcv (c := 125) (As := [.int a2, .int a3]) (S' := [.int a0]) (pc' := 33) 9 rfl hO
set_option maxRecDepth 100000 in
theorem e168_33 {L : Lo} {S : List Value} {h : Hp} {x z : Int32} : Run 168 33 L (.int z :: .int x :: S) h = Run 168 34 L (.int (x - z) :: S) h := Rg rfl
set_option maxRecDepth 100000 in
theorem e168_34 {L : Lo} {S : List Value} {h : Hp} : Run 168 34 L S h = Run 168 36 L (.int 6 :: S) h := Rg rfl
set_option maxRecDepth 100000 in
theorem e168_36 {L : Lo} {S : List Value} {h : Hp} {x z : Int32} : Run 168 36 L (.int z :: .int x :: S) h = Run 168 37 L (.int (x + z) :: S) h := Rg rfl
set_option maxRecDepth 100000 in
theorem e168_37 {L : Lo} {S : List Value} {h : Hp} : Run 168 37 L S h = Run 168 38 L (.int 3 :: S) h := Rg rfl
set_option maxRecDepth 100000 in
theorem e168_38 {L : Lo} {S : List Value} {h : Hp} {x z : Int32} (hz : ¬ z = 0) : Run 168 38 L (.int z :: .int x :: S) h = Run 168 39 L (.int (x - x / z * z) :: S) h := Rg (if_neg hz)
set_option maxRecDepth 100000 in
theorem e168_39 {L : Lo} {S : List Value} {h : Hp} {x : Int32} : Run 168 39 L (.int x :: S) h = if x = 0 then Run 168 42 L S h else Run 168 46 L S h := RbrN (c := cnd .ne x 0 = true) (off := 7) rfl rfl cnd_ne
set_option maxRecDepth 100000 in
theorem e168_42 {L : Lo} {S : List Value} {h : Hp} : Run 168 42 L S h = Run 168 43 L (.int 1 :: S) h := Rg rfl
set_option maxRecDepth 100000 in
theorem e168_43 {L : Lo} {S : List Value} {h : Hp} : Run 168 43 L S h = Run 168 47 L S h := Rg rfl
set_option maxRecDepth 100000 in
theorem e168_46 {L : Lo} {S : List Value} {h : Hp} : Run 168 46 L S h = Run 168 47 L (.int 0 :: S) h := Rg rfl
set_option maxRecDepth 100000 in
theorem e168_47 {L : Lo} {h : Hp} {x : Int32} (hx : narrow .boolean (.int x) = .int x) : Run 168 47 L [.int x] h = some (.inl (some (.int x)), h) := Rd (if_pos hx)
set_option maxRecDepth 100000 in
theorem e169_0 {L : Lo} {S : List Value} {h : Hp} {v : Nat} : Run 169 0 (some (.ref v) :: L) S h = Run 169 1 (some (.ref v) :: L) (.ref v :: S) h := Rg rfl
set_option maxRecDepth 100000 in
theorem e169_1 {L : Lo} {S : List Value} {h : Hp} {x0 : Option Value} {v : Int32} : Run 169 1 (x0 :: some (.int v) :: L) S h = Run 169 2 (x0 :: some (.int v) :: L) (.int v :: S) h := Rg rfl
set_option maxRecDepth 100000 in
theorem e169_2 {L : Lo} {h : Hp} {a1 : Int32} {a0 : Nat} (hO : isO h a0 9 = true) : Run 169 2 L [.int a1, .ref a0] h = (Run 127 0 [some (.ref a0), some (.int a1)] [] h).bind fun o => aft 169 2 5 L [] o := Rcv (c := 127) (As := [.int a1]) (S' := []) (pc' := 5) 9 rfl hO
set_option maxRecDepth 100000 in
theorem e169_5 {L : Lo} {S : List Value} {h : Hp} {x : Int32} : Run 169 5 L (.int x :: S) h = if x = 0 then Run 169 31 L S h else Run 169 8 L S h := Rbr (c := cnd .eq x 0 = true) (off := 26) rfl rfl cnd_eq
set_option maxRecDepth 100000 in
theorem e169_8 {L : Lo} {S : List Value} {h : Hp} {v : Nat} : Run 169 8 (some (.ref v) :: L) S h = Run 169 9 (some (.ref v) :: L) (.ref v :: S) h := Rg rfl
set_option maxRecDepth 100000 in
theorem e169_9 {L : Lo} {S : List Value} {h : Hp} {x0 x1 x2 : Option Value} {v : Int32} : Run 169 9 (x0 :: x1 :: x2 :: some (.int v) :: L) S h = Run 169 10 (x0 :: x1 :: x2 :: some (.int v) :: L) (.int v :: S) h := Rg rfl
set_option maxRecDepth 100000 in
theorem e169_10 {L : Lo} {h : Hp} {a1 : Int32} {a0 : Nat} (hO : isO h a0 9 = true) : Run 169 10 L [.int a1, .ref a0] h = (Run 127 0 [some (.ref a0), some (.int a1)] [] h).bind fun o => aft 169 10 13 L [] o := Rcv (c := 127) (As := [.int a1]) (S' := []) (pc' := 13) 9 rfl hO
set_option maxRecDepth 100000 in
theorem e169_13 {L : Lo} {S : List Value} {h : Hp} {x : Int32} : Run 169 13 L (.int x :: S) h = if x = 0 then Run 169 31 L S h else Run 169 16 L S h := Rbr (c := cnd .eq x 0 = true) (off := 18) rfl rfl cnd_eq
set_option maxRecDepth 100000 in
theorem e169_16 {L : Lo} {S : List Value} {h : Hp} {v : Nat} : Run 169 16 (some (.ref v) :: L) S h = Run 169 17 (some (.ref v) :: L) (.ref v :: S) h := Rg rfl
set_option maxRecDepth 100000 in
theorem e169_17 {L : Lo} {S : List Value} {h : Hp} {x0 : Option Value} {v : Int32} : Run 169 17 (x0 :: some (.int v) :: L) S h = Run 169 18 (x0 :: some (.int v) :: L) (.int v :: S) h := Rg rfl
set_option maxRecDepth 100000 in
theorem e169_18 {L : Lo} {S : List Value} {h : Hp} : Run 169 18 L S h = Run 169 19 L (.int 0 :: S) h := Rg rfl
set_option maxRecDepth 100000 in
theorem e169_19 {L : Lo} {h : Hp} {a2 : Int32} {a1 : Int32} {a0 : Nat} (hO : isO h a0 9 = true) : Run 169 19 L [.int a2, .int a1, .ref a0] h = (Run 125 0 [some (.ref a0), some (.int a1), some (.int a2)] [] h).bind fun o => aft 169 19 22 L [] o := Rcv (c := 125) (As := [.int a1, .int a2]) (S' := []) (pc' := 22) 9 rfl hO
set_option maxRecDepth 100000 in
theorem e169_22 {L : Lo} {S : List Value} {h : Hp} {v : Nat} : Run 169 22 (some (.ref v) :: L) S h = Run 169 23 (some (.ref v) :: L) (.ref v :: S) h := Rg rfl
set_option maxRecDepth 100000 in
theorem e169_23 {L : Lo} {S : List Value} {h : Hp} {x0 x1 x2 : Option Value} {v : Int32} : Run 169 23 (x0 :: x1 :: x2 :: some (.int v) :: L) S h = Run 169 24 (x0 :: x1 :: x2 :: some (.int v) :: L) (.int v :: S) h := Rg rfl
set_option maxRecDepth 100000 in
theorem e169_24 {L : Lo} {S : List Value} {h : Hp} : Run 169 24 L S h = Run 169 25 L (.int 0 :: S) h := Rg rfl
set_option maxRecDepth 100000 in
theorem e169_25 {L : Lo} {h : Hp} {a3 : Int32} {a2 : Int32} {a1 : Nat} {a0 : Int32} (hO : isO h a1 9 = true) : Run 169 25 L [.int a3, .int a2, .ref a1, .int a0] h = (Run 125 0 [some (.ref a1), some (.int a2), some (.int a3)] [] h).bind fun o => aft 169 25 28 L [.int a0] o := Rcv (c := 125) (As := [.int a2, .int a3]) (S' := [.int a0]) (pc' := 28) 9 rfl hO
set_option maxRecDepth 100000 in
theorem e169_28 {L : Lo} {S : List Value} {h : Hp} {x z : Int32} : Run 169 28 L (.int z :: .int x :: S) h = if x = z then Run 169 31 L S h else Run 169 33 L S h := RbrN (c := cnd .ne x z = true) (off := 5) rfl rfl cnd_ne
set_option maxRecDepth 100000 in
theorem e169_31 {L : Lo} {S : List Value} {h : Hp} : Run 169 31 L S h = Run 169 32 L (.int 0 :: S) h := Rg rfl
set_option maxRecDepth 100000 in
theorem e169_32 {L : Lo} {h : Hp} {x : Int32} : Run 169 32 L [.int x] h = some (.inl (some (.int x)), h) := Rd (if_pos (c := narrow .int (.int x) = .int x) rfl)
set_option maxRecDepth 100000 in
theorem e169_33 {L : Lo} {S : List Value} {h : Hp} {v : Nat} : Run 169 33 (some (.ref v) :: L) S h = Run 169 34 (some (.ref v) :: L) (.ref v :: S) h := Rg rfl
set_option maxRecDepth 100000 in
theorem e169_34 {L : Lo} {S : List Value} {h : Hp} {x0 : Option Value} {v : Int32} : Run 169 34 (x0 :: some (.int v) :: L) S h = Run 169 35 (x0 :: some (.int v) :: L) (.int v :: S) h := Rg rfl
set_option maxRecDepth 100000 in
theorem e169_35 {L : Lo} {S : List Value} {h : Hp} : Run 169 35 L S h = Run 169 36 L (.int 1 :: S) h := Rg rfl
set_option maxRecDepth 100000 in
theorem e169_36 {L : Lo} {h : Hp} {a2 : Int32} {a1 : Int32} {a0 : Nat} (hO : isO h a0 9 = true) : Run 169 36 L [.int a2, .int a1, .ref a0] h = (Run 125 0 [some (.ref a0), some (.int a1), some (.int a2)] [] h).bind fun o => aft 169 36 39 L [] o := Rcv (c := 125) (As := [.int a1, .int a2]) (S' := []) (pc' := 39) 9 rfl hO
set_option maxRecDepth 100000 in
theorem e169_39 {L : Lo} {S : List Value} {h : Hp} {x0 x1 x2 x3 : Option Value} {y : Option Value} {v : Int32} : Run 169 39 (x0 :: x1 :: x2 :: x3 :: y :: L) (.int v :: S) h = Run 169 41 (x0 :: x1 :: x2 :: ck x3 :: some (.int v) :: L) S h := Rg rfl
set_option maxRecDepth 100000 in
theorem e169_41 {L : Lo} {S : List Value} {h : Hp} {v : Nat} : Run 169 41 (some (.ref v) :: L) S h = Run 169 42 (some (.ref v) :: L) (.ref v :: S) h := Rg rfl
set_option maxRecDepth 100000 in
theorem e169_42 {L : Lo} {S : List Value} {h : Hp} {x0 x1 x2 : Option Value} {v : Int32} : Run 169 42 (x0 :: x1 :: x2 :: some (.int v) :: L) S h = Run 169 43 (x0 :: x1 :: x2 :: some (.int v) :: L) (.int v :: S) h := Rg rfl
set_option maxRecDepth 100000 in
theorem e169_43 {L : Lo} {S : List Value} {h : Hp} : Run 169 43 L S h = Run 169 44 L (.int 1 :: S) h := Rg rfl
set_option maxRecDepth 100000 in
theorem e169_44 {L : Lo} {h : Hp} {a2 : Int32} {a1 : Int32} {a0 : Nat} (hO : isO h a0 9 = true) : Run 169 44 L [.int a2, .int a1, .ref a0] h = (Run 125 0 [some (.ref a0), some (.int a1), some (.int a2)] [] h).bind fun o => aft 169 44 47 L [] o := Rcv (c := 125) (As := [.int a1, .int a2]) (S' := []) (pc' := 47) 9 rfl hO
set_option maxRecDepth 100000 in
theorem e169_47 {L : Lo} {S : List Value} {h : Hp} {x0 x1 x2 x3 x4 : Option Value} {y : Option Value} {v : Int32} : Run 169 47 (x0 :: x1 :: x2 :: x3 :: x4 :: y :: L) (.int v :: S) h = Run 169 49 (x0 :: x1 :: x2 :: x3 :: ck x4 :: some (.int v) :: L) S h := Rg rfl
set_option maxRecDepth 100000 in
theorem e169_49 {L : Lo} {S : List Value} {h : Hp} {v : Nat} : Run 169 49 (some (.ref v) :: L) S h = Run 169 50 (some (.ref v) :: L) (.ref v :: S) h := Rg rfl
set_option maxRecDepth 100000 in
theorem e169_50 {L : Lo} {S : List Value} {h : Hp} {x0 x1 x2 x3 : Option Value} {v : Int32} : Run 169 50 (x0 :: x1 :: x2 :: x3 :: some (.int v) :: L) S h = Run 169 52 (x0 :: x1 :: x2 :: x3 :: some (.int v) :: L) (.int v :: S) h := Rg rfl
set_option maxRecDepth 100000 in
theorem e169_52 {L : Lo} {S : List Value} {h : Hp} {x0 x1 x2 x3 x4 : Option Value} {v : Int32} : Run 169 52 (x0 :: x1 :: x2 :: x3 :: x4 :: some (.int v) :: L) S h = Run 169 54 (x0 :: x1 :: x2 :: x3 :: x4 :: some (.int v) :: L) (.int v :: S) h := Rg rfl
set_option maxRecDepth 100000 in
theorem e169_54 {L : Lo} {h : Hp} {a2 : Int32} {a1 : Int32} {a0 : Nat} (hO : isO h a0 9 = true) : Run 169 54 L [.int a2, .int a1, .ref a0] h = (Run 136 0 [some (.ref a0), some (.int a1), some (.int a2), none, none, none] [] h).bind fun o => aft 169 54 57 L [] o := Rcv (c := 136) (As := [.int a1, .int a2]) (S' := []) (pc' := 57) 9 rfl hO
set_option maxRecDepth 100000 in
theorem e169_57 {L : Lo} {S : List Value} {h : Hp} {x0 x1 x2 x3 x4 x5 : Option Value} {y : Option Value} {v : Int32} : Run 169 57 (x0 :: x1 :: x2 :: x3 :: x4 :: x5 :: y :: L) (.int v :: S) h = Run 169 59 (x0 :: x1 :: x2 :: x3 :: x4 :: ck x5 :: some (.int v) :: L) S h := Rg rfl
set_option maxRecDepth 100000 in
theorem e169_59 {L : Lo} {S : List Value} {h : Hp} {x0 x1 x2 x3 x4 x5 : Option Value} {v : Int32} : Run 169 59 (x0 :: x1 :: x2 :: x3 :: x4 :: x5 :: some (.int v) :: L) S h = Run 169 61 (x0 :: x1 :: x2 :: x3 :: x4 :: x5 :: some (.int v) :: L) (.int v :: S) h := Rg rfl
set_option maxRecDepth 100000 in
theorem e169_61 {L : Lo} {S : List Value} {h : Hp} : Run 169 61 L S h = Run 169 63 L (.int 6 :: S) h := Rg rfl
set_option maxRecDepth 100000 in
theorem e169_63 {L : Lo} {S : List Value} {h : Hp} {x z : Int32} : Run 169 63 L (.int z :: .int x :: S) h = if z < x then Run 169 88 L S h else Run 169 66 L S h := Rbr (c := cnd .gt x z = true) (off := 25) rfl rfl cnd_gt
set_option maxRecDepth 100000 in
theorem e169_66 {L : Lo} {S : List Value} {h : Hp} {v : Nat} : Run 169 66 (some (.ref v) :: L) S h = Run 169 67 (some (.ref v) :: L) (.ref v :: S) h := Rg rfl
set_option maxRecDepth 100000 in
theorem e169_67 {L : Lo} {S : List Value} {h : Hp} {x0 : Option Value} {v : Int32} : Run 169 67 (x0 :: some (.int v) :: L) S h = Run 169 68 (x0 :: some (.int v) :: L) (.int v :: S) h := Rg rfl
set_option maxRecDepth 100000 in
theorem e169_68 {L : Lo} {S : List Value} {h : Hp} {x0 x1 x2 x3 x4 : Option Value} {v : Int32} : Run 169 68 (x0 :: x1 :: x2 :: x3 :: x4 :: some (.int v) :: L) S h = Run 169 70 (x0 :: x1 :: x2 :: x3 :: x4 :: some (.int v) :: L) (.int v :: S) h := Rg rfl
set_option maxRecDepth 100000 in
theorem e169_70 {L : Lo} {h : Hp} {a2 : Int32} {a1 : Int32} {a0 : Nat} (hO : isO h a0 9 = true) : Run 169 70 L [.int a2, .int a1, .ref a0] h = (Run 138 0 [some (.ref a0), some (.int a1), some (.int a2), none, none, none] [] h).bind fun o => aft 169 70 73 L [] o := Rcv (c := 138) (As := [.int a1, .int a2]) (S' := []) (pc' := 73) 9 rfl hO
set_option maxRecDepth 100000 in
theorem e169_73 {L : Lo} {S : List Value} {h : Hp} {x0 x1 : Option Value} {v : Int32} : Run 169 73 (x0 :: x1 :: some (.int v) :: L) S h = Run 169 74 (x0 :: x1 :: some (.int v) :: L) (.int v :: S) h := Rg rfl
set_option maxRecDepth 100000 in
theorem e169_74 {L : Lo} {S : List Value} {h : Hp} {x z : Int32} : Run 169 74 L (.int z :: .int x :: S) h = if x = z then Run 169 77 L S h else Run 169 88 L S h := RbrN (c := cnd .ne x z = true) (off := 14) rfl rfl cnd_ne
set_option maxRecDepth 100000 in
theorem e169_77 {L : Lo} {S : List Value} {h : Hp} {v : Nat} : Run 169 77 (some (.ref v) :: L) S h = Run 169 78 (some (.ref v) :: L) (.ref v :: S) h := Rg rfl
set_option maxRecDepth 100000 in
theorem e169_78 {L : Lo} {S : List Value} {h : Hp} {x0 x1 x2 x3 : Option Value} {v : Int32} : Run 169 78 (x0 :: x1 :: x2 :: x3 :: some (.int v) :: L) S h = Run 169 80 (x0 :: x1 :: x2 :: x3 :: some (.int v) :: L) (.int v :: S) h := Rg rfl
set_option maxRecDepth 100000 in
theorem e169_80 {L : Lo} {S : List Value} {h : Hp} {x0 x1 x2 x3 x4 : Option Value} {v : Int32} : Run 169 80 (x0 :: x1 :: x2 :: x3 :: x4 :: some (.int v) :: L) S h = Run 169 82 (x0 :: x1 :: x2 :: x3 :: x4 :: some (.int v) :: L) (.int v :: S) h := Rg rfl
set_option maxRecDepth 100000 in
theorem e169_82 {L : Lo} {h : Hp} {a2 : Int32} {a1 : Int32} {a0 : Nat} (hO : isO h a0 9 = true) : Run 169 82 L [.int a2, .int a1, .ref a0] h = (Run 139 0 [some (.ref a0), some (.int a1), some (.int a2), none, none, none] [] h).bind fun o => aft 169 82 85 L [] o := Rcv (c := 139) (As := [.int a1, .int a2]) (S' := []) (pc' := 85) 9 rfl hO
set_option maxRecDepth 100000 in
theorem e169_85 {L : Lo} {S : List Value} {h : Hp} {x : Int32} : Run 169 85 L (.int x :: S) h = if x = 0 then Run 169 90 L S h else Run 169 88 L S h := Rbr (c := cnd .eq x 0 = true) (off := 5) rfl rfl cnd_eq
set_option maxRecDepth 100000 in
theorem e169_88 {L : Lo} {S : List Value} {h : Hp} : Run 169 88 L S h = Run 169 89 L (.int 0 :: S) h := Rg rfl
set_option maxRecDepth 100000 in
theorem e169_89 {L : Lo} {h : Hp} {x : Int32} : Run 169 89 L [.int x] h = some (.inl (some (.int x)), h) := Rd (if_pos (c := narrow .int (.int x) = .int x) rfl)
set_option maxRecDepth 100000 in
theorem e169_90 {L : Lo} {S : List Value} {h : Hp} {v : Nat} : Run 169 90 (some (.ref v) :: L) S h = Run 169 91 (some (.ref v) :: L) (.ref v :: S) h := Rg rfl
set_option maxRecDepth 100000 in
theorem e169_91 {L : Lo} {S : List Value} {h : Hp} {x0 : Option Value} {v : Int32} : Run 169 91 (x0 :: some (.int v) :: L) S h = Run 169 92 (x0 :: some (.int v) :: L) (.int v :: S) h := Rg rfl
set_option maxRecDepth 100000 in
theorem e169_92 {L : Lo} {S : List Value} {h : Hp} : Run 169 92 L S h = Run 169 93 L (.int 5 :: S) h := Rg rfl
set_option maxRecDepth 100000 in
theorem e169_93 {L : Lo} {S : List Value} {h : Hp} {x0 x1 : Option Value} {v : Int32} : Run 169 93 (x0 :: x1 :: some (.int v) :: L) S h = Run 169 94 (x0 :: x1 :: some (.int v) :: L) (.int v :: S) h := Rg rfl
set_option maxRecDepth 100000 in
theorem e169_94 {L : Lo} {S : List Value} {h : Hp} {x z : Int32} : Run 169 94 L (.int z :: .int x :: S) h = Run 169 95 L (.int (x + z) :: S) h := Rg rfl
set_option maxRecDepth 100000 in
theorem e169_95 {L : Lo} {h : Hp} {a2 : Int32} {a1 : Int32} {a0 : Nat} (hO : isO h a0 9 = true) : Run 169 95 L [.int a2, .int a1, .ref a0] h = (Run 125 0 [some (.ref a0), some (.int a1), some (.int a2)] [] h).bind fun o => aft 169 95 98 L [] o := Rcv (c := 125) (As := [.int a1, .int a2]) (S' := []) (pc' := 98) 9 rfl hO
set_option maxRecDepth 100000 in
theorem e169_98 {L : Lo} {S : List Value} {h : Hp} : Run 169 98 L S h = Run 169 100 L (.int 7 :: S) h := Rg rfl
set_option maxRecDepth 100000 in
theorem e169_100 {L : Lo} {S : List Value} {h : Hp} {x0 x1 x2 x3 x4 x5 : Option Value} {v : Int32} : Run 169 100 (x0 :: x1 :: x2 :: x3 :: x4 :: x5 :: some (.int v) :: L) S h = Run 169 102 (x0 :: x1 :: x2 :: x3 :: x4 :: x5 :: some (.int v) :: L) (.int v :: S) h := Rg rfl
set_option maxRecDepth 100000 in
theorem e169_102 {L : Lo} {S : List Value} {h : Hp} {x z : Int32} : Run 169 102 L (.int z :: .int x :: S) h = Run 169 103 L (.int (x - z) :: S) h := Rg rfl
set_option maxRecDepth 100000 in
theorem e169_103 {L : Lo} {S : List Value} {h : Hp} {x z : Int32} : Run 169 103 L (.int z :: .int x :: S) h = Run 169 104 L (.int (x * z) :: S) h := Rg rfl
set_option maxRecDepth 100000 in
theorem e169_104 {L : Lo} {S : List Value} {h : Hp} {v : Nat} : Run 169 104 (some (.ref v) :: L) S h = Run 169 105 (some (.ref v) :: L) (.ref v :: S) h := Rg rfl
set_option maxRecDepth 100000 in
theorem e169_105 {L : Lo} {S : List Value} {h : Hp} {x0 : Option Value} {v : Int32} : Run 169 105 (x0 :: some (.int v) :: L) S h = Run 169 106 (x0 :: some (.int v) :: L) (.int v :: S) h := Rg rfl
set_option maxRecDepth 100000 in
theorem e169_106 {L : Lo} {S : List Value} {h : Hp} {x0 x1 x2 : Option Value} {v : Int32} : Run 169 106 (x0 :: x1 :: x2 :: some (.int v) :: L) S h = Run 169 107 (x0 :: x1 :: x2 :: some (.int v) :: L) (.int v :: S) h := Rg rfl
set_option maxRecDepth 100000 in
theorem e169_107 {L : Lo} {h : Hp} {a3 : Int32} {a2 : Int32} {a1 : Nat} {a0 : Int32} (hO : isO h a1 9 = true) : Run 169 107 L [.int a3, .int a2, .ref a1, .int a0] h = (Run 168 0 [some (.ref a1), some (.int a2), some (.int a3), none] [] h).bind fun o => aft 169 107 110 L [.int a0] o := Rcv (c := 168) (As := [.int a2, .int a3]) (S' := [.int a0]) (pc' := 110) 9 rfl hO
set_option maxRecDepth 100000 in
theorem e169_110 {L : Lo} {S : List Value} {h : Hp} {x : Int32} : Run 169 110 L (.int x :: S) h = if x = 0 then Run 169 117 L S h else Run 169 113 L S h := Rbr (c := cnd .eq x 0 = true) (off := 7) rfl rfl cnd_eq
set_option maxRecDepth 100000 in
theorem e169_113 {L : Lo} {S : List Value} {h : Hp} : Run 169 113 L S h = Run 169 114 L (.int 2 :: S) h := Rg rfl
set_option maxRecDepth 100000 in
theorem e169_114 {L : Lo} {S : List Value} {h : Hp} : Run 169 114 L S h = Run 169 118 L S h := Rg rfl
set_option maxRecDepth 100000 in
theorem e169_117 {L : Lo} {S : List Value} {h : Hp} : Run 169 117 L S h = Run 169 118 L (.int 1 :: S) h := Rg rfl
set_option maxRecDepth 100000 in
theorem e169_118 {L : Lo} {S : List Value} {h : Hp} {x z : Int32} : Run 169 118 L (.int z :: .int x :: S) h = Run 169 119 L (.int (x * z) :: S) h := Rg rfl
set_option maxRecDepth 100000 in
theorem e169_119 {L : Lo} {h : Hp} {x : Int32} : Run 169 119 L [.int x] h = some (.inl (some (.int x)), h) := Rd (if_pos (c := narrow .int (.int x) = .int x) rfl)
set_option maxRecDepth 100000 in
theorem e170_0 {L : Lo} {S : List Value} {h : Hp} {v : Nat} : Run 170 0 (some (.ref v) :: L) S h = Run 170 1 (some (.ref v) :: L) (.ref v :: S) h := Rg rfl
set_option maxRecDepth 100000 in
theorem e170_1 {L : Lo} {S : List Value} {h : Hp} {x0 : Option Value} {v : Int32} : Run 170 1 (x0 :: some (.int v) :: L) S h = Run 170 2 (x0 :: some (.int v) :: L) (.int v :: S) h := Rg rfl
set_option maxRecDepth 100000 in
theorem e170_2 {L : Lo} {h : Hp} {a1 : Int32} {a0 : Nat} (hO : isO h a0 9 = true) : Run 170 2 L [.int a1, .ref a0] h = (Run 124 0 [some (.ref a0), some (.int a1)] [] h).bind fun o => aft 170 2 5 L [] o := Rcv (c := 124) (As := [.int a1]) (S' := []) (pc' := 5) 9 rfl hO
set_option maxRecDepth 100000 in
theorem e170_5 {L : Lo} {S : List Value} {h : Hp} {x : Int32} : Run 170 5 L (.int x :: S) h = if x = 0 then Run 170 16 L S h else Run 170 8 L S h := Rbr (c := cnd .eq x 0 = true) (off := 11) rfl rfl cnd_eq
set_option maxRecDepth 100000 in
theorem e170_8 {L : Lo} {S : List Value} {h : Hp} {v : Nat} : Run 170 8 (some (.ref v) :: L) S h = Run 170 9 (some (.ref v) :: L) (.ref v :: S) h := Rg rfl
set_option maxRecDepth 100000 in
theorem e170_9 {L : Lo} {S : List Value} {h : Hp} {x0 x1 : Option Value} {v : Int32} : Run 170 9 (x0 :: x1 :: some (.int v) :: L) S h = Run 170 10 (x0 :: x1 :: some (.int v) :: L) (.int v :: S) h := Rg rfl
set_option maxRecDepth 100000 in
theorem e170_10 {L : Lo} {h : Hp} {a1 : Int32} {a0 : Nat} (hO : isO h a0 9 = true) : Run 170 10 L [.int a1, .ref a0] h = (Run 124 0 [some (.ref a0), some (.int a1)] [] h).bind fun o => aft 170 10 13 L [] o := Rcv (c := 124) (As := [.int a1]) (S' := []) (pc' := 13) 9 rfl hO
set_option maxRecDepth 100000 in
theorem e170_13 {L : Lo} {S : List Value} {h : Hp} {x : Int32} : Run 170 13 L (.int x :: S) h = if x = 0 then Run 170 16 L S h else Run 170 20 L S h := RbrN (c := cnd .ne x 0 = true) (off := 7) rfl rfl cnd_ne
set_option maxRecDepth 100000 in
theorem e170_16 {L : Lo} {S : List Value} {h : Hp} : Run 170 16 L S h = Run 170 17 L (.int 1 :: S) h := Rg rfl
set_option maxRecDepth 100000 in
theorem e170_17 {L : Lo} {S : List Value} {h : Hp} : Run 170 17 L S h = Run 170 30 L S h := Rg rfl
set_option maxRecDepth 100000 in
theorem e170_20 {L : Lo} {S : List Value} {h : Hp} {x0 : Option Value} {v : Int32} : Run 170 20 (x0 :: some (.int v) :: L) S h = Run 170 21 (x0 :: some (.int v) :: L) (.int v :: S) h := Rg rfl
set_option maxRecDepth 100000 in
theorem e170_21 {L : Lo} {S : List Value} {h : Hp} {x0 x1 : Option Value} {v : Int32} : Run 170 21 (x0 :: x1 :: some (.int v) :: L) S h = Run 170 22 (x0 :: x1 :: some (.int v) :: L) (.int v :: S) h := Rg rfl
set_option maxRecDepth 100000 in
theorem e170_22 {L : Lo} {S : List Value} {h : Hp} {x z : Int32} : Run 170 22 L (.int z :: .int x :: S) h = if x = z then Run 170 25 L S h else Run 170 29 L S h := RbrN (c := cnd .ne x z = true) (off := 7) rfl rfl cnd_ne
set_option maxRecDepth 100000 in
theorem e170_25 {L : Lo} {S : List Value} {h : Hp} : Run 170 25 L S h = Run 170 26 L (.int 2 :: S) h := Rg rfl
set_option maxRecDepth 100000 in
theorem e170_26 {L : Lo} {S : List Value} {h : Hp} : Run 170 26 L S h = Run 170 30 L S h := Rg rfl
set_option maxRecDepth 100000 in
theorem e170_29 {L : Lo} {S : List Value} {h : Hp} : Run 170 29 L S h = Run 170 30 L (.int 0 :: S) h := Rg rfl
set_option maxRecDepth 100000 in
theorem e170_30 {L : Lo} {h : Hp} {x : Int32} : Run 170 30 L [.int x] h = some (.inl (some (.int x)), h) := Rd (if_pos (c := narrow .int (.int x) = .int x) rfl)
set_option maxRecDepth 100000 in
theorem e171_0 {L : Lo} {S : List Value} {h : Hp} {v : Nat} : Run 171 0 (some (.ref v) :: L) S h = Run 171 1 (some (.ref v) :: L) (.ref v :: S) h := Rg rfl
set_option maxRecDepth 100000 in
theorem e171_1 {L : Lo} {S : List Value} {h : Hp} {v : Nat} : Run 171 1 (some (.ref v) :: L) S h = Run 171 2 (some (.ref v) :: L) (.ref v :: S) h := Rg rfl
set_option maxRecDepth 100000 in
theorem e171_2 {L : Lo} {S : List Value} {h : Hp} {x0 : Option Value} {v : Int32} : Run 171 2 (x0 :: some (.int v) :: L) S h = Run 171 3 (x0 :: some (.int v) :: L) (.int v :: S) h := Rg rfl
set_option maxRecDepth 100000 in
theorem e171_3 {L : Lo} {S : List Value} {h : Hp} {x0 x1 x2 : Option Value} {v : Int32} : Run 171 3 (x0 :: x1 :: x2 :: some (.int v) :: L) S h = Run 171 4 (x0 :: x1 :: x2 :: some (.int v) :: L) (.int v :: S) h := Rg rfl
set_option maxRecDepth 100000 in
theorem e171_4 {L : Lo} {h : Hp} {a3 : Int32} {a2 : Int32} {a1 : Nat} {a0 : Nat} (hO : isO h a1 9 = true) : Run 171 4 L [.int a3, .int a2, .ref a1, .ref a0] h = (Run 170 0 [some (.ref a1), some (.int a2), some (.int a3)] [] h).bind fun o => aft 171 4 7 L [.ref a0] o := Rcv (c := 170) (As := [.int a2, .int a3]) (S' := [.ref a0]) (pc' := 7) 9 rfl hO
set_option maxRecDepth 100000 in
theorem e171_7 {L : Lo} {S : List Value} {h : Hp} {b : Nat} {v : Value} : Run 171 7 L (v :: .ref b :: S) h = (pf h 9 5 b v).bind fun h1 => Run 171 10 L S h1 := Rb rfl fun _ => rfl
set_option maxRecDepth 100000 in
theorem e171_10 {L : Lo} {S : List Value} {h : Hp} {v : Nat} : Run 171 10 (some (.ref v) :: L) S h = Run 171 11 (some (.ref v) :: L) (.ref v :: S) h := Rg rfl
set_option maxRecDepth 100000 in
theorem e171_11 {L : Lo} {S : List Value} {h : Hp} {b : Nat} : Run 171 11 L (.ref b :: S) h = (gf h 9 5 b).bind fun v => Run 171 14 L (v :: S) h := Rb rfl fun _ => rfl
set_option maxRecDepth 100000 in
theorem e171_14 {L : Lo} {S : List Value} {h : Hp} {x : Int32} : Run 171 14 L (.int x :: S) h = if x = 0 then Run 171 21 L S h else Run 171 17 L S h := Rbr (c := cnd .eq x 0 = true) (off := 7) rfl rfl cnd_eq
set_option maxRecDepth 100000 in
theorem e171_17 {L : Lo} {S : List Value} {h : Hp} : Run 171 17 L S h = Run 171 18 L (.int 0 :: S) h := Rg rfl
set_option maxRecDepth 100000 in
theorem e171_18 {L : Lo} {S : List Value} {h : Hp} : Run 171 18 L S h = Run 171 36 L S h := Rg rfl
set_option maxRecDepth 100000 in
theorem e171_21 {L : Lo} {S : List Value} {h : Hp} {v : Nat} : Run 171 21 (some (.ref v) :: L) S h = Run 171 22 (some (.ref v) :: L) (.ref v :: S) h := Rg rfl
set_option maxRecDepth 100000 in
theorem e171_22 {L : Lo} {S : List Value} {h : Hp} {x0 : Option Value} {v : Int32} : Run 171 22 (x0 :: some (.int v) :: L) S h = Run 171 23 (x0 :: some (.int v) :: L) (.int v :: S) h := Rg rfl
set_option maxRecDepth 100000 in
theorem e171_23 {L : Lo} {S : List Value} {h : Hp} {x0 x1 : Option Value} {v : Int32} : Run 171 23 (x0 :: x1 :: some (.int v) :: L) S h = Run 171 24 (x0 :: x1 :: some (.int v) :: L) (.int v :: S) h := Rg rfl
set_option maxRecDepth 100000 in
theorem e171_24 {L : Lo} {S : List Value} {h : Hp} {x : Int32} : Run 171 24 L (.int x :: S) h = if x = 0 then Run 171 31 L S h else Run 171 27 L S h := Rbr (c := cnd .eq x 0 = true) (off := 7) rfl rfl cnd_eq
set_option maxRecDepth 100000 in
theorem e171_27 {L : Lo} {S : List Value} {h : Hp} : Run 171 27 L S h = Run 171 28 L (.int 1 :: S) h := Rg rfl
set_option maxRecDepth 100000 in
theorem e171_28 {L : Lo} {S : List Value} {h : Hp} : Run 171 28 L S h = Run 171 32 L S h := Rg rfl
set_option maxRecDepth 100000 in
theorem e171_31 {L : Lo} {S : List Value} {h : Hp} : Run 171 31 L S h = Run 171 32 L (.int 0 :: S) h := Rg rfl
set_option maxRecDepth 100000 in
theorem e171_32 {L : Lo} {S : List Value} {h : Hp} {x0 x1 x2 : Option Value} {v : Int32} : Run 171 32 (x0 :: x1 :: x2 :: some (.int v) :: L) S h = Run 171 33 (x0 :: x1 :: x2 :: some (.int v) :: L) (.int v :: S) h := Rg rfl
set_option maxRecDepth 100000 in
theorem e171_33 {L : Lo} {h : Hp} {a3 : Int32} {a2 : Int32} {a1 : Int32} {a0 : Nat} (hO : isO h a0 9 = true) : Run 171 33 L [.int a3, .int a2, .int a1, .ref a0] h = (Run 169 0 [some (.ref a0), some (.int a1), some (.int a2), some (.int a3), none, none, none] [] h).bind fun o => aft 171 33 36 L [] o := Rcv (c := 169) (As := [.int a1, .int a2, .int a3]) (S' := []) (pc' := 36) 9 rfl hO
set_option maxRecDepth 100000 in
theorem e171_36 {L : Lo} {h : Hp} {x : Int32} : Run 171 36 L [.int x] h = some (.inl (some (.int x)), h) := Rd (if_pos (c := narrow .int (.int x) = .int x) rfl)
set_option maxRecDepth 100000 in
theorem e172_0 {L : Lo} {S : List Value} {h : Hp} {v : Nat} : Run 172 0 (some (.ref v) :: L) S h = Run 172 1 (some (.ref v) :: L) (.ref v :: S) h := Rg rfl
set_option maxRecDepth 100000 in
theorem e172_1 {L : Lo} {S : List Value} {h : Hp} {x0 : Option Value} {v : Int32} : Run 172 1 (x0 :: some (.int v) :: L) S h = Run 172 2 (x0 :: some (.int v) :: L) (.int v :: S) h := Rg rfl
set_option maxRecDepth 100000 in
theorem e172_2 {L : Lo} {S : List Value} {h : Hp} {x0 x1 x2 : Option Value} {v : Int32} : Run 172 2 (x0 :: x1 :: x2 :: some (.int v) :: L) S h = Run 172 3 (x0 :: x1 :: x2 :: some (.int v) :: L) (.int v :: S) h := Rg rfl
set_option maxRecDepth 100000 in
theorem e172_3 {L : Lo} {h : Hp} {a2 : Int32} {a1 : Int32} {a0 : Nat} (hO : isO h a0 9 = true) : Run 172 3 L [.int a2, .int a1, .ref a0] h = (Run 170 0 [some (.ref a0), some (.int a1), some (.int a2)] [] h).bind fun o => aft 172 3 6 L [] o := Rcv (c := 170) (As := [.int a1, .int a2]) (S' := []) (pc' := 6) 9 rfl hO
set_option maxRecDepth 100000 in
theorem e172_6 {L : Lo} {S : List Value} {h : Hp} {x0 x1 x2 x3 x4 : Option Value} {y : Option Value} {v : Int32} : Run 172 6 (x0 :: x1 :: x2 :: x3 :: x4 :: y :: L) (.int v :: S) h = Run 172 8 (x0 :: x1 :: x2 :: x3 :: ck x4 :: some (.int v) :: L) S h := Rg rfl
set_option maxRecDepth 100000 in
theorem e172_8 {L : Lo} {S : List Value} {h : Hp} {x0 x1 x2 x3 x4 : Option Value} {v : Int32} : Run 172 8 (x0 :: x1 :: x2 :: x3 :: x4 :: some (.int v) :: L) S h = Run 172 10 (x0 :: x1 :: x2 :: x3 :: x4 :: some (.int v) :: L) (.int v :: S) h := Rg rfl
set_option maxRecDepth 100000 in
theorem e172_10 {L : Lo} {S : List Value} {h : Hp} : Run 172 10 L S h = Run 172 11 L (.int 1 :: S) h := Rg rfl
set_option maxRecDepth 100000 in
theorem e172_11 {L : Lo} {S : List Value} {h : Hp} {x z : Int32} : Run 172 11 L (.int z :: .int x :: S) h = if x = z then Run 172 14 L S h else Run 172 16 L S h := RbrN (c := cnd .ne x z = true) (off := 5) rfl rfl cnd_ne
set_option maxRecDepth 100000 in
theorem e172_14 {L : Lo} {S : List Value} {h : Hp} : Run 172 14 L S h = Run 172 15 L (.int 1 :: S) h := Rg rfl
set_option maxRecDepth 100000 in
theorem e172_15 {L : Lo} {h : Hp} {x : Int32} : Run 172 15 L [.int x] h = some (.inl (some (.int x)), h) := Rd (if_pos (c := narrow .int (.int x) = .int x) rfl)
set_option maxRecDepth 100000 in
theorem e172_16 {L : Lo} {S : List Value} {h : Hp} {x0 x1 x2 x3 x4 : Option Value} {v : Int32} : Run 172 16 (x0 :: x1 :: x2 :: x3 :: x4 :: some (.int v) :: L) S h = Run 172 18 (x0 :: x1 :: x2 :: x3 :: x4 :: some (.int v) :: L) (.int v :: S) h := Rg rfl
set_option maxRecDepth 100000 in
theorem e172_18 {L : Lo} {S : List Value} {h : Hp} : Run 172 18 L S h = Run 172 19 L (.int 2 :: S) h := Rg rfl
set_option maxRecDepth 100000 in
theorem e172_19 {L : Lo} {S : List Value} {h : Hp} {x z : Int32} : Run 172 19 L (.int z :: .int x :: S) h = if x = z then Run 172 32 L S h else Run 172 22 L S h := Rbr (c := cnd .eq x z = true) (off := 13) rfl rfl cnd_eq
set_option maxRecDepth 100000 in
theorem e172_22 {L : Lo} {S : List Value} {h : Hp} {x0 x1 x2 x3 : Option Value} {v : Int32} : Run 172 22 (x0 :: x1 :: x2 :: x3 :: some (.int v) :: L) S h = Run 172 24 (x0 :: x1 :: x2 :: x3 :: some (.int v) :: L) (.int v :: S) h := Rg rfl
set_option maxRecDepth 100000 in
theorem e172_24 {L : Lo} {S : List Value} {h : Hp} : Run 172 24 L S h = Run 172 25 L (.int 0 :: S) h := Rg rfl
set_option maxRecDepth 100000 in
theorem e172_25 {L : Lo} {S : List Value} {h : Hp} : Run 172 25 L S h = Run 172 26 L (.int 2 :: S) h := Rg rfl
set_option maxRecDepth 100000 in
theorem e172_26 {L : Lo} {h : Hp} {a2 : Int32} {a1 : Int32} {a0 : Int32} : Run 172 26 L [.int a2, .int a1, .int a0] h = (Run 118 0 [some (.int a0), some (.int a1), some (.int a2)] [] h).bind fun o => aft 172 26 29 L [] o := Rc (c := 118) (As := [.int a0, .int a1, .int a2]) (S' := []) (pc' := 29) rfl
set_option maxRecDepth 100000 in
theorem e172_29 {L : Lo} {S : List Value} {h : Hp} {x : Int32} : Run 172 29 L (.int x :: S) h = if x = 0 then Run 172 32 L S h else Run 172 34 L S h := RbrN (c := cnd .ne x 0 = true) (off := 5) rfl rfl cnd_ne
set_option maxRecDepth 100000 in
theorem e172_32 {L : Lo} {S : List Value} {h : Hp} : Run 172 32 L S h = Run 172 33 L (.int 2 :: S) h := Rg rfl
set_option maxRecDepth 100000 in
theorem e172_33 {L : Lo} {h : Hp} {x : Int32} : Run 172 33 L [.int x] h = some (.inl (some (.int x)), h) := Rd (if_pos (c := narrow .int (.int x) = .int x) rfl)
set_option maxRecDepth 100000 in
theorem e172_34 {L : Lo} {S : List Value} {h : Hp} {v : Nat} : Run 172 34 (some (.ref v) :: L) S h = Run 172 35 (some (.ref v) :: L) (.ref v :: S) h := Rg rfl
set_option maxRecDepth 100000 in
theorem e172_35 {L : Lo} {S : List Value} {h : Hp} {x0 : Option Value} {v : Int32} : Run 172 35 (x0 :: some (.int v) :: L) S h = Run 172 36 (x0 :: some (.int v) :: L) (.int v :: S) h := Rg rfl
set_option maxRecDepth 100000 in
theorem e172_36 {L : Lo} {S : List Value} {h : Hp} : Run 172 36 L S h = Run 172 38 L (.int 9 :: S) h := Rg rfl
set_option maxRecDepth 100000 in
theorem e172_38 {L : Lo} {S : List Value} {h : Hp} {x0 x1 : Option Value} {v : Int32} : Run 172 38 (x0 :: x1 :: some (.int v) :: L) S h = Run 172 39 (x0 :: x1 :: some (.int v) :: L) (.int v :: S) h := Rg rfl
set_option maxRecDepth 100000 in
theorem e172_39 {L : Lo} {S : List Value} {h : Hp} {x z : Int32} : Run 172 39 L (.int z :: .int x :: S) h = Run 172 40 L (.int (x + z) :: S) h := Rg rfl
set_option maxRecDepth 100000 in
theorem e172_40 {L : Lo} {h : Hp} {a2 : Int32} {a1 : Int32} {a0 : Nat} (hO : isO h a0 9 = true) : Run 172 40 L [.int a2, .int a1, .ref a0] h = (Run 125 0 [some (.ref a0), some (.int a1), some (.int a2)] [] h).bind fun o => aft 172 40 43 L [] o := Rcv (c := 125) (As := [.int a1, .int a2]) (S' := []) (pc' := 43) 9 rfl hO
set_option maxRecDepth 100000 in
theorem e172_43 {L : Lo} {S : List Value} {h : Hp} {x : Int32} : Run 172 43 L (.int x :: S) h = if x = 0 then Run 172 46 L S h else Run 172 60 L S h := RbrN (c := cnd .ne x 0 = true) (off := 17) rfl rfl cnd_ne
set_option maxRecDepth 100000 in
theorem e172_46 {L : Lo} {S : List Value} {h : Hp} {v : Nat} : Run 172 46 (some (.ref v) :: L) S h = Run 172 47 (some (.ref v) :: L) (.ref v :: S) h := Rg rfl
set_option maxRecDepth 100000 in
theorem e172_47 {L : Lo} {S : List Value} {h : Hp} {x0 : Option Value} {v : Int32} : Run 172 47 (x0 :: some (.int v) :: L) S h = Run 172 48 (x0 :: some (.int v) :: L) (.int v :: S) h := Rg rfl
set_option maxRecDepth 100000 in
theorem e172_48 {L : Lo} {S : List Value} {h : Hp} {x0 x1 : Option Value} {v : Int32} : Run 172 48 (x0 :: x1 :: some (.int v) :: L) S h = Run 172 49 (x0 :: x1 :: some (.int v) :: L) (.int v :: S) h := Rg rfl
set_option maxRecDepth 100000 in
theorem e172_49 {L : Lo} {S : List Value} {h : Hp} {x0 x1 x2 : Option Value} {v : Int32} : Run 172 49 (x0 :: x1 :: x2 :: some (.int v) :: L) S h = Run 172 50 (x0 :: x1 :: x2 :: some (.int v) :: L) (.int v :: S) h := Rg rfl
set_option maxRecDepth 100000 in
theorem e172_50 {L : Lo} {h : Hp} {a3 : Int32} {a2 : Int32} {a1 : Int32} {a0 : Nat} (hO : isO h a0 9 = true) : Run 172 50 L [.int a3, .int a2, .int a1, .ref a0] h = (Run 169 0 [some (.ref a0), some (.int a1), some (.int a2), some (.int a3), none, none, none] [] h).bind fun o => aft 172 50 53 L [] o := Rcv (c := 169) (As := [.int a1, .int a2, .int a3]) (S' := []) (pc' := 53) 9 rfl hO
set_option maxRecDepth 100000 in
theorem e172_53 {L : Lo} {S : List Value} {h : Hp} {x : Int32} : Run 172 53 L (.int x :: S) h = if x ≤ 0 then Run 172 60 L S h else Run 172 56 L S h := Rbr (c := cnd .le x 0 = true) (off := 7) rfl rfl cnd_le
set_option maxRecDepth 100000 in
theorem e172_56 {L : Lo} {S : List Value} {h : Hp} : Run 172 56 L S h = Run 172 57 L (.int 1 :: S) h := Rg rfl
set_option maxRecDepth 100000 in
theorem e172_57 {L : Lo} {S : List Value} {h : Hp} : Run 172 57 L S h = Run 172 61 L S h := Rg rfl
set_option maxRecDepth 100000 in
theorem e172_60 {L : Lo} {S : List Value} {h : Hp} : Run 172 60 L S h = Run 172 61 L (.int 0 :: S) h := Rg rfl
set_option maxRecDepth 100000 in
theorem e172_61 {L : Lo} {S : List Value} {h : Hp} {x0 x1 x2 x3 x4 x5 : Option Value} {y : Option Value} {v : Int32} : Run 172 61 (x0 :: x1 :: x2 :: x3 :: x4 :: x5 :: y :: L) (.int v :: S) h = Run 172 63 (x0 :: x1 :: x2 :: x3 :: x4 :: ck x5 :: some (.int v) :: L) S h := Rg rfl
set_option maxRecDepth 100000 in
theorem e172_63 {L : Lo} {S : List Value} {h : Hp} {x0 x1 x2 x3 x4 x5 : Option Value} {v : Int32} : Run 172 63 (x0 :: x1 :: x2 :: x3 :: x4 :: x5 :: some (.int v) :: L) S h = Run 172 65 (x0 :: x1 :: x2 :: x3 :: x4 :: x5 :: some (.int v) :: L) (.int v :: S) h := Rg rfl
set_option maxRecDepth 100000 in
theorem e172_65 {L : Lo} {S : List Value} {h : Hp} {x : Int32} : Run 172 65 L (.int x :: S) h = if x = 0 then Run 172 98 L S h else Run 172 68 L S h := Rbr (c := cnd .eq x 0 = true) (off := 33) rfl rfl cnd_eq
set_option maxRecDepth 100000 in
theorem e172_68 {L : Lo} {S : List Value} {h : Hp} {x0 x1 x2 x3 : Option Value} {v : Int32} : Run 172 68 (x0 :: x1 :: x2 :: x3 :: some (.int v) :: L) S h = Run 172 70 (x0 :: x1 :: x2 :: x3 :: some (.int v) :: L) (.int v :: S) h := Rg rfl
set_option maxRecDepth 100000 in
theorem e172_70 {L : Lo} {S : List Value} {h : Hp} : Run 172 70 L S h = Run 172 71 L (.int 2 :: S) h := Rg rfl
set_option maxRecDepth 100000 in
theorem e172_71 {L : Lo} {S : List Value} {h : Hp} {x z : Int32} : Run 172 71 L (.int z :: .int x :: S) h = if x < z then Run 172 94 L S h else Run 172 74 L S h := Rbr (c := cnd .lt x z = true) (off := 23) rfl rfl cnd_lt
set_option maxRecDepth 100000 in
theorem e172_74 {L : Lo} {S : List Value} {h : Hp} {v : Nat} : Run 172 74 (some (.ref v) :: L) S h = Run 172 75 (some (.ref v) :: L) (.ref v :: S) h := Rg rfl
set_option maxRecDepth 100000 in
theorem e172_75 {L : Lo} {S : List Value} {h : Hp} {v : Nat} : Run 172 75 (some (.ref v) :: L) S h = Run 172 76 (some (.ref v) :: L) (.ref v :: S) h := Rg rfl
set_option maxRecDepth 100000 in
theorem e172_76 {L : Lo} {S : List Value} {h : Hp} {x0 : Option Value} {v : Int32} : Run 172 76 (x0 :: some (.int v) :: L) S h = Run 172 77 (x0 :: some (.int v) :: L) (.int v :: S) h := Rg rfl
set_option maxRecDepth 100000 in
theorem e172_77 {L : Lo} {S : List Value} {h : Hp} : Run 172 77 L S h = Run 172 78 L (.int 1 :: S) h := Rg rfl
set_option maxRecDepth 100000 in
theorem e172_78 {L : Lo} {h : Hp} {a3 : Int32} {a2 : Int32} {a1 : Nat} {a0 : Nat} (hO : isO h a1 9 = true) : Run 172 78 L [.int a3, .int a2, .ref a1, .ref a0] h = (Run 125 0 [some (.ref a1), some (.int a2), some (.int a3)] [] h).bind fun o => aft 172 78 81 L [.ref a0] o := Rcv (c := 125) (As := [.int a2, .int a3]) (S' := [.ref a0]) (pc' := 81) 9 rfl hO
set_option maxRecDepth 100000 in
theorem e172_81 {L : Lo} {S : List Value} {h : Hp} {v : Nat} : Run 172 81 (some (.ref v) :: L) S h = Run 172 82 (some (.ref v) :: L) (.ref v :: S) h := Rg rfl
set_option maxRecDepth 100000 in
theorem e172_82 {L : Lo} {S : List Value} {h : Hp} {x0 x1 x2 : Option Value} {v : Int32} : Run 172 82 (x0 :: x1 :: x2 :: some (.int v) :: L) S h = Run 172 83 (x0 :: x1 :: x2 :: some (.int v) :: L) (.int v :: S) h := Rg rfl
set_option maxRecDepth 100000 in
theorem e172_83 {L : Lo} {S : List Value} {h : Hp} : Run 172 83 L S h = Run 172 84 L (.int 1 :: S) h := Rg rfl
set_option maxRecDepth 100000 in
theorem e172_84 {L : Lo} {h : Hp} {a4 : Int32} {a3 : Int32} {a2 : Nat} {a1 : Int32} {a0 : Nat} (hO : isO h a2 9 = true) : Run 172 84 L [.int a4, .int a3, .ref a2, .int a1, .ref a0] h = (Run 125 0 [some (.ref a2), some (.int a3), some (.int a4)] [] h).bind fun o => aft 172 84 87 L [.int a1, .ref a0] o := Rcv (c := 125) (As := [.int a3, .int a4]) (S' := [.int a1, .ref a0]) (pc' := 87) 9 rfl hO
set_option maxRecDepth 100000 in
theorem e172_87 {L : Lo} {h : Hp} {a2 : Int32} {a1 : Int32} {a0 : Nat} (hO : isO h a0 9 = true) : Run 172 87 L [.int a2, .int a1, .ref a0] h = (Run 136 0 [some (.ref a0), some (.int a1), some (.int a2), none, none, none] [] h).bind fun o => aft 172 87 90 L [] o := Rcv (c := 136) (As := [.int a1, .int a2]) (S' := []) (pc' := 90) 9 rfl hO
set_option maxRecDepth 100000 in
theorem e172_90 {L : Lo} {S : List Value} {h : Hp} : Run 172 90 L S h = Run 172 91 L (.int 2 :: S) h := Rg rfl
set_option maxRecDepth 100000 in
theorem e172_91 {L : Lo} {S : List Value} {h : Hp} {x z : Int32} : Run 172 91 L (.int z :: .int x :: S) h = if z < x then Run 172 98 L S h else Run 172 94 L S h := Rbr (c := cnd .gt x z = true) (off := 7) rfl rfl cnd_gt
set_option maxRecDepth 100000 in
theorem e172_94 {L : Lo} {S : List Value} {h : Hp} : Run 172 94 L S h = Run 172 95 L (.int 0 :: S) h := Rg rfl
set_option maxRecDepth 100000 in
theorem e172_95 {L : Lo} {S : List Value} {h : Hp} : Run 172 95 L S h = Run 172 99 L S h := Rg rfl
set_option maxRecDepth 100000 in
theorem e172_98 {L : Lo} {S : List Value} {h : Hp} : Run 172 98 L S h = Run 172 99 L (.int 3 :: S) h := Rg rfl
set_option maxRecDepth 100000 in
theorem e172_99 {L : Lo} {h : Hp} {x : Int32} : Run 172 99 L [.int x] h = some (.inl (some (.int x)), h) := Rd (if_pos (c := narrow .int (.int x) = .int x) rfl)
set_option maxRecDepth 100000 in
theorem e173_0 {L : Lo} {S : List Value} {h : Hp} {x0 x1 x2 : Option Value} {v : Int32} : Run 173 0 (x0 :: x1 :: x2 :: some (.int v) :: L) S h = Run 173 1 (x0 :: x1 :: x2 :: some (.int v) :: L) (.int v :: S) h := Rg rfl
set_option maxRecDepth 100000 in
theorem e173_1 {L : Lo} {S : List Value} {h : Hp} {v : Nat} : Run 173 1 (some (.ref v) :: L) S h = Run 173 2 (some (.ref v) :: L) (.ref v :: S) h := Rg rfl
set_option maxRecDepth 100000 in
theorem e173_2 {L : Lo} {S : List Value} {h : Hp} {x0 : Option Value} {v : Int32} : Run 173 2 (x0 :: some (.int v) :: L) S h = Run 173 3 (x0 :: some (.int v) :: L) (.int v :: S) h := Rg rfl
set_option maxRecDepth 100000 in
theorem e173_3 {L : Lo} {S : List Value} {h : Hp} {x0 x1 : Option Value} {v : Int32} : Run 173 3 (x0 :: x1 :: some (.int v) :: L) S h = Run 173 4 (x0 :: x1 :: some (.int v) :: L) (.int v :: S) h := Rg rfl
set_option maxRecDepth 100000 in
theorem e173_4 {L : Lo} {h : Hp} {a3 : Int32} {a2 : Int32} {a1 : Nat} {a0 : Int32} (hO : isO h a1 9 = true) : Run 173 4 L [.int a3, .int a2, .ref a1, .int a0] h = (Run 125 0 [some (.ref a1), some (.int a2), some (.int a3)] [] h).bind fun o => aft 173 4 7 L [.int a0] o := Rcv (c := 125) (As := [.int a2, .int a3]) (S' := [.int a0]) (pc' := 7) 9 rfl hO
set_option maxRecDepth 100000 in
theorem e173_7 {L : Lo} {S : List Value} {h : Hp} {x0 x1 x2 x3 : Option Value} {v : Int32} : Run 173 7 (x0 :: x1 :: x2 :: x3 :: some (.int v) :: L) S h = Run 173 9 (x0 :: x1 :: x2 :: x3 :: some (.int v) :: L) (.int v :: S) h := Rg rfl
set_option maxRecDepth 100000 in
theorem e173_9 {L : Lo} {S : List Value} {h : Hp} {x z : Int32} : Run 173 9 L (.int z :: .int x :: S) h = Run 173 10 L (.int (x - z) :: S) h := Rg rfl
set_option maxRecDepth 100000 in
theorem e173_10 {L : Lo} {h : Hp} {a1 : Int32} {a0 : Int32} : Run 173 10 L [.int a1, .int a0] h = (Run 120 0 [some (.int a0), some (.int a1)] [] h).bind fun o => aft 173 10 13 L [] o := Rc (c := 120) (As := [.int a0, .int a1]) (S' := []) (pc' := 13) rfl
set_option maxRecDepth 100000 in
theorem e173_13 {L : Lo} {S : List Value} {h : Hp} {x0 x1 x2 x3 x4 : Option Value} {y : Option Value} {v : Int32} : Run 173 13 (x0 :: x1 :: x2 :: x3 :: x4 :: y :: L) (.int v :: S) h = Run 173 15 (x0 :: x1 :: x2 :: x3 :: ck x4 :: some (.int v) :: L) S h := Rg rfl
set_option maxRecDepth 100000 in
theorem e173_15 {L : Lo} {S : List Value} {h : Hp} {v : Nat} : Run 173 15 (some (.ref v) :: L) S h = Run 173 16 (some (.ref v) :: L) (.ref v :: S) h := Rg rfl
set_option maxRecDepth 100000 in
theorem e173_16 {L : Lo} {S : List Value} {h : Hp} {x0 : Option Value} {v : Int32} : Run 173 16 (x0 :: some (.int v) :: L) S h = Run 173 17 (x0 :: some (.int v) :: L) (.int v :: S) h := Rg rfl
set_option maxRecDepth 100000 in
theorem e173_17 {L : Lo} {S : List Value} {h : Hp} {x0 x1 : Option Value} {v : Int32} : Run 173 17 (x0 :: x1 :: some (.int v) :: L) S h = Run 173 18 (x0 :: x1 :: some (.int v) :: L) (.int v :: S) h := Rg rfl
set_option maxRecDepth 100000 in
theorem e173_18 {L : Lo} {S : List Value} {h : Hp} {v : Nat} : Run 173 18 (some (.ref v) :: L) S h = Run 173 19 (some (.ref v) :: L) (.ref v :: S) h := Rg rfl
set_option maxRecDepth 100000 in
theorem e173_19 {L : Lo} {S : List Value} {h : Hp} {x0 : Option Value} {v : Int32} : Run 173 19 (x0 :: some (.int v) :: L) S h = Run 173 20 (x0 :: some (.int v) :: L) (.int v :: S) h := Rg rfl
set_option maxRecDepth 100000 in
theorem e173_20 {L : Lo} {S : List Value} {h : Hp} {x0 x1 : Option Value} {v : Int32} : Run 173 20 (x0 :: x1 :: some (.int v) :: L) S h = Run 173 21 (x0 :: x1 :: some (.int v) :: L) (.int v :: S) h := Rg rfl
set_option maxRecDepth 100000 in
theorem e173_21 {L : Lo} {h : Hp} {a5 : Int32} {a4 : Int32} {a3 : Nat} {a2 : Int32} {a1 : Int32} {a0 : Nat} (hO : isO h a3 9 = true) : Run 173 21 L [.int a5, .int a4, .ref a3, .int a2, .int a1, .ref a0] h = (Run 125 0 [some (.ref a3), some (.int a4), some (.int a5)] [] h).bind fun o => aft 173 21 24 L [.int a2, .int a1, .ref a0] o := Rcv (c := 125) (As := [.int a4, .int a5]) (S' := [.int a2, .int a1, .ref a0]) (pc' := 24) 9 rfl hO
set_option maxRecDepth 100000 in
theorem e173_24 {L : Lo} {S : List Value} {h : Hp} {x0 x1 x2 x3 x4 : Option Value} {v : Int32} : Run 173 24 (x0 :: x1 :: x2 :: x3 :: x4 :: some (.int v) :: L) S h = Run 173 26 (x0 :: x1 :: x2 :: x3 :: x4 :: some (.int v) :: L) (.int v :: S) h := Rg rfl
set_option maxRecDepth 100000 in
theorem e173_26 {L : Lo} {S : List Value} {h : Hp} {x z : Int32} : Run 173 26 L (.int z :: .int x :: S) h = Run 173 27 L (.int (x - z) :: S) h := Rg rfl
set_option maxRecDepth 100000 in
theorem e173_27 {L : Lo} {h : Hp} {a3 : Int32} {a2 : Int32} {a1 : Int32} {a0 : Nat} (hO : isO h a0 9 = true) : Run 173 27 L [.int a3, .int a2, .int a1, .ref a0] h = (Run 126 0 [some (.ref a0), some (.int a1), some (.int a2), some (.int a3)] [] h).bind fun o => aft 173 27 30 L [] o := Rcv (c := 126) (As := [.int a1, .int a2, .int a3]) (S' := []) (pc' := 30) 9 rfl hO
set_option maxRecDepth 100000 in
theorem e173_30 {L : Lo} {S : List Value} {h : Hp} {x0 x1 x2 x3 x4 : Option Value} {v : Int32} : Run 173 30 (x0 :: x1 :: x2 :: x3 :: x4 :: some (.int v) :: L) S h = Run 173 32 (x0 :: x1 :: x2 :: x3 :: x4 :: some (.int v) :: L) (.int v :: S) h := Rg rfl
set_option maxRecDepth 100000 in
theorem e173_32 {L : Lo} {h : Hp} {x : Int32} : Run 173 32 L [.int x] h = some (.inl (some (.int x)), h) := Rd (if_pos (c := narrow .int (.int x) = .int x) rfl)
set_option maxRecDepth 100000 in
theorem e174_0 {L : Lo} {S : List Value} {h : Hp} {v : Nat} : Run 174 0 (some (.ref v) :: L) S h = Run 174 1 (some (.ref v) :: L) (.ref v :: S) h := Rg rfl
set_option maxRecDepth 100000 in
theorem e174_1 {L : Lo} {S : List Value} {h : Hp} {x0 : Option Value} {v : Int32} : Run 174 1 (x0 :: some (.int v) :: L) S h = Run 174 2 (x0 :: some (.int v) :: L) (.int v :: S) h := Rg rfl
set_option maxRecDepth 100000 in
theorem e174_2 {L : Lo} {S : List Value} {h : Hp} : Run 174 2 L S h = Run 174 4 L (.int 11 :: S) h := Rg rfl
set_option maxRecDepth 100000 in
theorem e174_4 {L : Lo} {h : Hp} {a2 : Int32} {a1 : Int32} {a0 : Nat} (hO : isO h a0 9 = true) : Run 174 4 L [.int a2, .int a1, .ref a0] h = (Run 125 0 [some (.ref a0), some (.int a1), some (.int a2)] [] h).bind fun o => aft 174 4 7 L [] o := Rcv (c := 125) (As := [.int a1, .int a2]) (S' := []) (pc' := 7) 9 rfl hO
set_option maxRecDepth 100000 in
theorem e174_7 {L : Lo} {S : List Value} {h : Hp} : Run 174 7 L S h = Run 174 8 L (.int (-1) :: S) h := Rg rfl
set_option maxRecDepth 100000 in
theorem e174_8 {L : Lo} {S : List Value} {h : Hp} {x z : Int32} : Run 174 8 L (.int z :: .int x :: S) h = if x = z then Run 174 33 L S h else Run 174 11 L S h := Rbr (c := cnd .eq x z = true) (off := 25) rfl rfl cnd_eq
set_option maxRecDepth 100000 in
theorem e174_11 {L : Lo} {S : List Value} {h : Hp} {v : Nat} : Run 174 11 (some (.ref v) :: L) S h = Run 174 12 (some (.ref v) :: L) (.ref v :: S) h := Rg rfl
set_option maxRecDepth 100000 in
theorem e174_12 {L : Lo} {S : List Value} {h : Hp} {v : Nat} : Run 174 12 (some (.ref v) :: L) S h = Run 174 13 (some (.ref v) :: L) (.ref v :: S) h := Rg rfl
set_option maxRecDepth 100000 in
theorem e174_13 {L : Lo} {S : List Value} {h : Hp} {x0 : Option Value} {v : Int32} : Run 174 13 (x0 :: some (.int v) :: L) S h = Run 174 14 (x0 :: some (.int v) :: L) (.int v :: S) h := Rg rfl
set_option maxRecDepth 100000 in
theorem e174_14 {L : Lo} {S : List Value} {h : Hp} : Run 174 14 L S h = Run 174 16 L (.int 11 :: S) h := Rg rfl
set_option maxRecDepth 100000 in
theorem e174_16 {L : Lo} {h : Hp} {a3 : Int32} {a2 : Int32} {a1 : Nat} {a0 : Nat} (hO : isO h a1 9 = true) : Run 174 16 L [.int a3, .int a2, .ref a1, .ref a0] h = (Run 125 0 [some (.ref a1), some (.int a2), some (.int a3)] [] h).bind fun o => aft 174 16 19 L [.ref a0] o := Rcv (c := 125) (As := [.int a2, .int a3]) (S' := [.ref a0]) (pc' := 19) 9 rfl hO
set_option maxRecDepth 100000 in
theorem e174_19 {L : Lo} {S : List Value} {h : Hp} : Run 174 19 L S h = Run 174 21 L (.int 11 :: S) h := Rg rfl
set_option maxRecDepth 100000 in
theorem e174_21 {L : Lo} {S : List Value} {h : Hp} : Run 174 21 L S h = Run 174 22 L (.int (-1) :: S) h := Rg rfl
set_option maxRecDepth 100000 in
theorem e174_22 {L : Lo} {h : Hp} {a3 : Int32} {a2 : Int32} {a1 : Int32} {a0 : Nat} (hO : isO h a0 9 = true) : Run 174 22 L [.int a3, .int a2, .int a1, .ref a0] h = (Run 126 0 [some (.ref a0), some (.int a1), some (.int a2), some (.int a3)] [] h).bind fun o => aft 174 22 25 L [] o := Rcv (c := 126) (As := [.int a1, .int a2, .int a3]) (S' := []) (pc' := 25) 9 rfl hO
set_option maxRecDepth 100000 in
theorem e174_25 {L : Lo} {S : List Value} {h : Hp} {v : Nat} : Run 174 25 (some (.ref v) :: L) S h = Run 174 26 (some (.ref v) :: L) (.ref v :: S) h := Rg rfl
set_option maxRecDepth 100000 in
theorem e174_26 {L : Lo} {S : List Value} {h : Hp} {x0 : Option Value} {v : Int32} : Run 174 26 (x0 :: some (.int v) :: L) S h = Run 174 27 (x0 :: some (.int v) :: L) (.int v :: S) h := Rg rfl
set_option maxRecDepth 100000 in
theorem e174_27 {L : Lo} {S : List Value} {h : Hp} : Run 174 27 L S h = Run 174 29 L (.int 11 :: S) h := Rg rfl
set_option maxRecDepth 100000 in
theorem e174_29 {L : Lo} {S : List Value} {h : Hp} : Run 174 29 L S h = Run 174 30 L (.int (-1) :: S) h := Rg rfl
set_option maxRecDepth 100000 in
theorem e174_30 {L : Lo} {h : Hp} {a3 : Int32} {a2 : Int32} {a1 : Int32} {a0 : Nat} (hO : isO h a0 9 = true) : Run 174 30 L [.int a3, .int a2, .int a1, .ref a0] h = (Run 126 0 [some (.ref a0), some (.int a1), some (.int a2), some (.int a3)] [] h).bind fun o => aft 174 30 33 L [] o := Rcv (c := 126) (As := [.int a1, .int a2, .int a3]) (S' := []) (pc' := 33) 9 rfl hO
set_option maxRecDepth 100000 in
theorem e174_33 {L : Lo} {h : Hp} : Run 174 33 L [] h = some (.inl none, h) := Rd rfl
set_option maxRecDepth 100000 in
theorem e175_0 {L : Lo} {S : List Value} {h : Hp} {v : Nat} : Run 175 0 (some (.ref v) :: L) S h = Run 175 1 (some (.ref v) :: L) (.ref v :: S) h := Rg rfl
set_option maxRecDepth 100000 in
theorem e175_1 {L : Lo} {S : List Value} {h : Hp} {x0 : Option Value} {v : Int32} : Run 175 1 (x0 :: some (.int v) :: L) S h = Run 175 2 (x0 :: some (.int v) :: L) (.int v :: S) h := Rg rfl
set_option maxRecDepth 100000 in
theorem e175_2 {L : Lo} {S : List Value} {h : Hp} {x0 x1 : Option Value} {v : Int32} : Run 175 2 (x0 :: x1 :: some (.int v) :: L) S h = Run 175 3 (x0 :: x1 :: some (.int v) :: L) (.int v :: S) h := Rg rfl
set_option maxRecDepth 100000 in
theorem e175_3 {L : Lo} {S : List Value} {h : Hp} {x0 x1 x2 : Option Value} {v : Int32} : Run 175 3 (x0 :: x1 :: x2 :: some (.int v) :: L) S h = Run 175 4 (x0 :: x1 :: x2 :: some (.int v) :: L) (.int v :: S) h := Rg rfl
set_option maxRecDepth 100000 in
theorem e175_4 {L : Lo} {h : Hp} {a3 : Int32} {a2 : Int32} {a1 : Int32} {a0 : Nat} (hO : isO h a0 9 = true) : Run 175 4 L [.int a3, .int a2, .int a1, .ref a0] h = (Run 169 0 [some (.ref a0), some (.int a1), some (.int a2), some (.int a3), none, none, none] [] h).bind fun o => aft 175 4 7 L [] o := Rcv (c := 169) (As := [.int a1, .int a2, .int a3]) (S' := []) (pc' := 7) 9 rfl hO
set_option maxRecDepth 100000 in
theorem e175_7 {L : Lo} {S : List Value} {h : Hp} {x0 x1 x2 x3 x4 : Option Value} {y : Option Value} {v : Int32} : Run 175 7 (x0 :: x1 :: x2 :: x3 :: x4 :: y :: L) (.int v :: S) h = Run 175 9 (x0 :: x1 :: x2 :: x3 :: ck x4 :: some (.int v) :: L) S h := Rg rfl
set_option maxRecDepth 100000 in
theorem e175_9 {L : Lo} {S : List Value} {h : Hp} {v : Nat} : Run 175 9 (some (.ref v) :: L) S h = Run 175 10 (some (.ref v) :: L) (.ref v :: S) h := Rg rfl
set_option maxRecDepth 100000 in
theorem e175_10 {L : Lo} {S : List Value} {h : Hp} {x0 : Option Value} {v : Int32} : Run 175 10 (x0 :: some (.int v) :: L) S h = Run 175 11 (x0 :: some (.int v) :: L) (.int v :: S) h := Rg rfl
set_option maxRecDepth 100000 in
theorem e175_11 {L : Lo} {S : List Value} {h : Hp} : Run 175 11 L S h = Run 175 13 L (.int 9 :: S) h := Rg rfl
set_option maxRecDepth 100000 in
theorem e175_13 {L : Lo} {S : List Value} {h : Hp} {x0 x1 : Option Value} {v : Int32} : Run 175 13 (x0 :: x1 :: some (.int v) :: L) S h = Run 175 14 (x0 :: x1 :: some (.int v) :: L) (.int v :: S) h := Rg rfl
set_option maxRecDepth 100000 in
theorem e175_14 {L : Lo} {S : List Value} {h : Hp} {x z : Int32} : Run 175 14 L (.int z :: .int x :: S) h = Run 175 15 L (.int (x + z) :: S) h := Rg rfl
set_option maxRecDepth 100000 in
theorem e175_15 {L : Lo} {S : List Value} {h : Hp} : Run 175 15 L S h = Run 175 16 L (.int 2 :: S) h := Rg rfl
set_option maxRecDepth 100000 in
theorem e175_16 {L : Lo} {S : List Value} {h : Hp} {v : Nat} : Run 175 16 (some (.ref v) :: L) S h = Run 175 17 (some (.ref v) :: L) (.ref v :: S) h := Rg rfl
set_option maxRecDepth 100000 in
theorem e175_17 {L : Lo} {S : List Value} {h : Hp} {x0 : Option Value} {v : Int32} : Run 175 17 (x0 :: some (.int v) :: L) S h = Run 175 18 (x0 :: some (.int v) :: L) (.int v :: S) h := Rg rfl
set_option maxRecDepth 100000 in
theorem e175_18 {L : Lo} {S : List Value} {h : Hp} : Run 175 18 L S h = Run 175 20 L (.int 7 :: S) h := Rg rfl
set_option maxRecDepth 100000 in
theorem e175_20 {L : Lo} {h : Hp} {a6 : Int32} {a5 : Int32} {a4 : Nat} {a3 : Int32} {a2 : Int32} {a1 : Int32} {a0 : Nat} (hO : isO h a4 9 = true) : Run 175 20 L [.int a6, .int a5, .ref a4, .int a3, .int a2, .int a1, .ref a0] h = (Run 125 0 [some (.ref a4), some (.int a5), some (.int a6)] [] h).bind fun o => aft 175 20 23 L [.int a3, .int a2, .int a1, .ref a0] o := Rcv (c := 125) (As := [.int a5, .int a6]) (S' := [.int a3, .int a2, .int a1, .ref a0]) (pc' := 23) 9 rfl hO
set_option maxRecDepth 100000 in
theorem e175_23 {L : Lo} {S : List Value} {h : Hp} {x z : Int32} : Run 175 23 L (.int z :: .int x :: S) h = Run 175 24 L (.int (x * z) :: S) h := Rg rfl
set_option maxRecDepth 100000 in
theorem e175_24 {L : Lo} {S : List Value} {h : Hp} {v : Nat} : Run 175 24 (some (.ref v) :: L) S h = Run 175 25 (some (.ref v) :: L) (.ref v :: S) h := Rg rfl
set_option maxRecDepth 100000 in
theorem e175_25 {L : Lo} {S : List Value} {h : Hp} {x0 : Option Value} {v : Int32} : Run 175 25 (x0 :: some (.int v) :: L) S h = Run 175 26 (x0 :: some (.int v) :: L) (.int v :: S) h := Rg rfl
set_option maxRecDepth 100000 in
theorem e175_26 {L : Lo} {S : List Value} {h : Hp} : Run 175 26 L S h = Run 175 28 L (.int 12 :: S) h := Rg rfl
set_option maxRecDepth 100000 in
theorem e175_28 {L : Lo} {h : Hp} {a6 : Int32} {a5 : Int32} {a4 : Nat} {a3 : Int32} {a2 : Int32} {a1 : Int32} {a0 : Nat} (hO : isO h a4 9 = true) : Run 175 28 L [.int a6, .int a5, .ref a4, .int a3, .int a2, .int a1, .ref a0] h = (Run 125 0 [some (.ref a4), some (.int a5), some (.int a6)] [] h).bind fun o => aft 175 28 31 L [.int a3, .int a2, .int a1, .ref a0] o := Rcv (c := 125) (As := [.int a5, .int a6]) (S' := [.int a3, .int a2, .int a1, .ref a0]) (pc' := 31) 9 rfl hO
set_option maxRecDepth 100000 in
theorem e175_31 {L : Lo} {S : List Value} {h : Hp} {x z : Int32} : Run 175 31 L (.int z :: .int x :: S) h = if x < z then Run 175 38 L S h else Run 175 34 L S h := Rbr (c := cnd .lt x z = true) (off := 7) rfl rfl cnd_lt
set_option maxRecDepth 100000 in
theorem e175_34 {L : Lo} {S : List Value} {h : Hp} : Run 175 34 L S h = Run 175 35 L (.int 1 :: S) h := Rg rfl
set_option maxRecDepth 100000 in
theorem e175_35 {L : Lo} {S : List Value} {h : Hp} : Run 175 35 L S h = Run 175 39 L S h := Rg rfl
set_option maxRecDepth 100000 in
theorem e175_38 {L : Lo} {S : List Value} {h : Hp} : Run 175 38 L S h = Run 175 39 L (.int 2 :: S) h := Rg rfl
set_option maxRecDepth 100000 in
theorem e175_39 {L : Lo} {h : Hp} {a3 : Int32} {a2 : Int32} {a1 : Int32} {a0 : Nat} (hO : isO h a0 9 = true) : Run 175 39 L [.int a3, .int a2, .int a1, .ref a0] h = (Run 126 0 [some (.ref a0), some (.int a1), some (.int a2), some (.int a3)] [] h).bind fun o => aft 175 39 42 L [] o := Rcv (c := 126) (As := [.int a1, .int a2, .int a3]) (S' := []) (pc' := 42) 9 rfl hO
set_option maxRecDepth 100000 in
theorem e175_42 {L : Lo} {S : List Value} {h : Hp} {x0 x1 x2 x3 : Option Value} {v : Int32} : Run 175 42 (x0 :: x1 :: x2 :: x3 :: some (.int v) :: L) S h = Run 175 44 (x0 :: x1 :: x2 :: x3 :: some (.int v) :: L) (.int v :: S) h := Rg rfl
set_option maxRecDepth 100000 in
theorem e175_44 {L : Lo} {S : List Value} {h : Hp} : Run 175 44 L S h = Run 175 45 L (.int 1 :: S) h := Rg rfl
set_option maxRecDepth 100000 in
theorem e175_45 {L : Lo} {S : List Value} {h : Hp} {x z : Int32} : Run 175 45 L (.int z :: .int x :: S) h = if x = z then Run 175 48 L S h else Run 175 61 L S h := RbrN (c := cnd .ne x z = true) (off := 16) rfl rfl cnd_ne
set_option maxRecDepth 100000 in
theorem e175_48 {L : Lo} {S : List Value} {h : Hp} {v : Nat} : Run 175 48 (some (.ref v) :: L) S h = Run 175 49 (some (.ref v) :: L) (.ref v :: S) h := Rg rfl
set_option maxRecDepth 100000 in
theorem e175_49 {L : Lo} {S : List Value} {h : Hp} {x0 x1 x2 : Option Value} {v : Int32} : Run 175 49 (x0 :: x1 :: x2 :: some (.int v) :: L) S h = Run 175 50 (x0 :: x1 :: x2 :: some (.int v) :: L) (.int v :: S) h := Rg rfl
set_option maxRecDepth 100000 in
theorem e175_50 {L : Lo} {S : List Value} {h : Hp} : Run 175 50 L S h = Run 175 51 L (.int 4 :: S) h := Rg rfl
set_option maxRecDepth 100000 in
theorem e175_51 {L : Lo} {S : List Value} {h : Hp} {x0 x1 x2 x3 x4 : Option Value} {v : Int32} : Run 175 51 (x0 :: x1 :: x2 :: x3 :: x4 :: some (.int v) :: L) S h = Run 175 53 (x0 :: x1 :: x2 :: x3 :: x4 :: some (.int v) :: L) (.int v :: S) h := Rg rfl
set_option maxRecDepth 100000 in
theorem e175_53 {L : Lo} {S : List Value} {h : Hp} : Run 175 53 L S h = Run 175 55 L (.int 6 :: S) h := Rg rfl
set_option maxRecDepth 100000 in
theorem e175_55 {L : Lo} {S : List Value} {h : Hp} {x z : Int32} (hz : ¬ z = 0) : Run 175 55 L (.int z :: .int x :: S) h = Run 175 56 L (.int (x / z) :: S) h := Rg (if_neg hz)
set_option maxRecDepth 100000 in
theorem e175_56 {L : Lo} {S : List Value} {h : Hp} : Run 175 56 L S h = Run 175 57 L (.int 0 :: S) h := Rg rfl
set_option maxRecDepth 100000 in
theorem e175_57 {L : Lo} {h : Hp} {a4 : Int32} {a3 : Int32} {a2 : Int32} {a1 : Int32} {a0 : Nat} (hO : isO h a0 9 = true) : Run 175 57 L [.int a4, .int a3, .int a2, .int a1, .ref a0] h = (Run 173 0 [some (.ref a0), some (.int a1), some (.int a2), some (.int a3), some (.int a4), none] [] h).bind fun o => aft 175 57 60 L [] o := Rcv (c := 173) (As := [.int a1, .int a2, .int a3, .int a4]) (S' := []) (pc' := 60) 9 rfl hO
set_option maxRecDepth 100000 in
theorem e175_60 {L : Lo} {h : Hp} {x : Int32} : Run 175 60 L [.int x] h = some (.inl (some (.int x)), h) := Rd (if_pos (c := narrow .int (.int x) = .int x) rfl)
set_option maxRecDepth 100000 in
theorem e175_61 {L : Lo} {S : List Value} {h : Hp} {x0 x1 x2 x3 : Option Value} {v : Int32} : Run 175 61 (x0 :: x1 :: x2 :: x3 :: some (.int v) :: L) S h = Run 175 63 (x0 :: x1 :: x2 :: x3 :: some (.int v) :: L) (.int v :: S) h := Rg rfl
set_option maxRecDepth 100000 in
theorem e175_63 {L : Lo} {S : List Value} {h : Hp} : Run 175 63 L S h = Run 175 64 L (.int 2 :: S) h := Rg rfl
set_option maxRecDepth 100000 in
theorem e175_64 {L : Lo} {S : List Value} {h : Hp} {x z : Int32} : Run 175 64 L (.int z :: .int x :: S) h = if x = z then Run 175 67 L S h else Run 175 80 L S h := RbrN (c := cnd .ne x z = true) (off := 16) rfl rfl cnd_ne
set_option maxRecDepth 100000 in
theorem e175_67 {L : Lo} {S : List Value} {h : Hp} {v : Nat} : Run 175 67 (some (.ref v) :: L) S h = Run 175 68 (some (.ref v) :: L) (.ref v :: S) h := Rg rfl
set_option maxRecDepth 100000 in
theorem e175_68 {L : Lo} {S : List Value} {h : Hp} {x0 x1 x2 : Option Value} {v : Int32} : Run 175 68 (x0 :: x1 :: x2 :: some (.int v) :: L) S h = Run 175 69 (x0 :: x1 :: x2 :: some (.int v) :: L) (.int v :: S) h := Rg rfl
set_option maxRecDepth 100000 in
theorem e175_69 {L : Lo} {S : List Value} {h : Hp} : Run 175 69 L S h = Run 175 71 L (.int 7 :: S) h := Rg rfl
set_option maxRecDepth 100000 in
theorem e175_71 {L : Lo} {S : List Value} {h : Hp} {x0 x1 x2 x3 x4 : Option Value} {v : Int32} : Run 175 71 (x0 :: x1 :: x2 :: x3 :: x4 :: some (.int v) :: L) S h = Run 175 73 (x0 :: x1 :: x2 :: x3 :: x4 :: some (.int v) :: L) (.int v :: S) h := Rg rfl
set_option maxRecDepth 100000 in
theorem e175_73 {L : Lo} {S : List Value} {h : Hp} : Run 175 73 L S h = Run 175 74 L (.int 5 :: S) h := Rg rfl
set_option maxRecDepth 100000 in
theorem e175_74 {L : Lo} {S : List Value} {h : Hp} {x z : Int32} (hz : ¬ z = 0) : Run 175 74 L (.int z :: .int x :: S) h = Run 175 75 L (.int (x / z) :: S) h := Rg (if_neg hz)
set_option maxRecDepth 100000 in
theorem e175_75 {L : Lo} {S : List Value} {h : Hp} : Run 175 75 L S h = Run 175 76 L (.int 1 :: S) h := Rg rfl
set_option maxRecDepth 100000 in
theorem e175_76 {L : Lo} {h : Hp} {a4 : Int32} {a3 : Int32} {a2 : Int32} {a1 : Int32} {a0 : Nat} (hO : isO h a0 9 = true) : Run 175 76 L [.int a4, .int a3, .int a2, .int a1, .ref a0] h = (Run 173 0 [some (.ref a0), some (.int a1), some (.int a2), some (.int a3), some (.int a4), none] [] h).bind fun o => aft 175 76 79 L [] o := Rcv (c := 173) (As := [.int a1, .int a2, .int a3, .int a4]) (S' := []) (pc' := 79) 9 rfl hO
set_option maxRecDepth 100000 in
theorem e175_79 {L : Lo} {h : Hp} {x : Int32} : Run 175 79 L [.int x] h = some (.inl (some (.int x)), h) := Rd (if_pos (c := narrow .int (.int x) = .int x) rfl)
set_option maxRecDepth 100000 in
theorem e175_80 {L : Lo} {S : List Value} {h : Hp} {v : Nat} : Run 175 80 (some (.ref v) :: L) S h = Run 175 81 (some (.ref v) :: L) (.ref v :: S) h := Rg rfl
set_option maxRecDepth 100000 in
theorem e175_81 {L : Lo} {S : List Value} {h : Hp} {x0 x1 x2 : Option Value} {v : Int32} : Run 175 81 (x0 :: x1 :: x2 :: some (.int v) :: L) S h = Run 175 82 (x0 :: x1 :: x2 :: some (.int v) :: L) (.int v :: S) h := Rg rfl
set_option maxRecDepth 100000 in
theorem e175_82 {L : Lo} {S : List Value} {h : Hp} {v : Nat} : Run 175 82 (some (.ref v) :: L) S h = Run 175 83 (some (.ref v) :: L) (.ref v :: S) h := Rg rfl
set_option maxRecDepth 100000 in
theorem e175_83 {L : Lo} {S : List Value} {h : Hp} {x0 : Option Value} {v : Int32} : Run 175 83 (x0 :: some (.int v) :: L) S h = Run 175 84 (x0 :: some (.int v) :: L) (.int v :: S) h := Rg rfl
set_option maxRecDepth 100000 in
theorem e175_84 {L : Lo} {S : List Value} {h : Hp} : Run 175 84 L S h = Run 175 85 L (.int 1 :: S) h := Rg rfl
set_option maxRecDepth 100000 in
theorem e175_85 {L : Lo} {h : Hp} {a4 : Int32} {a3 : Int32} {a2 : Nat} {a1 : Int32} {a0 : Nat} (hO : isO h a2 9 = true) : Run 175 85 L [.int a4, .int a3, .ref a2, .int a1, .ref a0] h = (Run 125 0 [some (.ref a2), some (.int a3), some (.int a4)] [] h).bind fun o => aft 175 85 88 L [.int a1, .ref a0] o := Rcv (c := 125) (As := [.int a3, .int a4]) (S' := [.int a1, .ref a0]) (pc' := 88) 9 rfl hO
set_option maxRecDepth 100000 in
theorem e175_88 {L : Lo} {h : Hp} {a2 : Int32} {a1 : Int32} {a0 : Nat} (hO : isO h a0 9 = true) : Run 175 88 L [.int a2, .int a1, .ref a0] h = (Run 138 0 [some (.ref a0), some (.int a1), some (.int a2), none, none, none] [] h).bind fun o => aft 175 88 91 L [] o := Rcv (c := 138) (As := [.int a1, .int a2]) (S' := []) (pc' := 91) 9 rfl hO
set_option maxRecDepth 100000 in
theorem e175_91 {L : Lo} {S : List Value} {h : Hp} {x0 x1 x2 x3 x4 x5 : Option Value} {y : Option Value} {v : Int32} : Run 175 91 (x0 :: x1 :: x2 :: x3 :: x4 :: x5 :: y :: L) (.int v :: S) h = Run 175 93 (x0 :: x1 :: x2 :: x3 :: x4 :: ck x5 :: some (.int v) :: L) S h := Rg rfl
set_option maxRecDepth 100000 in
theorem e175_93 {L : Lo} {S : List Value} {h : Hp} {x0 x1 x2 x3 x4 x5 : Option Value} {v : Int32} : Run 175 93 (x0 :: x1 :: x2 :: x3 :: x4 :: x5 :: some (.int v) :: L) S h = Run 175 95 (x0 :: x1 :: x2 :: x3 :: x4 :: x5 :: some (.int v) :: L) (.int v :: S) h := Rg rfl
set_option maxRecDepth 100000 in
theorem e175_95 {L : Lo} {S : List Value} {h : Hp} : Run 175 95 L S h = Run 175 96 L (.int (-1) :: S) h := Rg rfl
set_option maxRecDepth 100000 in
theorem e175_96 {L : Lo} {S : List Value} {h : Hp} {x z : Int32} : Run 175 96 L (.int z :: .int x :: S) h = if x = z then Run 175 99 L S h else Run 175 103 L S h := RbrN (c := cnd .ne x z = true) (off := 7) rfl rfl cnd_ne
set_option maxRecDepth 100000 in
theorem e175_99 {L : Lo} {S : List Value} {h : Hp} : Run 175 99 L S h = Run 175 100 L (.int 0 :: S) h := Rg rfl
set_option maxRecDepth 100000 in
theorem e175_100 {L : Lo} {S : List Value} {h : Hp} : Run 175 100 L S h = Run 175 118 L S h := Rg rfl
set_option maxRecDepth 100000 in
theorem e175_103 {L : Lo} {S : List Value} {h : Hp} {v : Nat} : Run 175 103 (some (.ref v) :: L) S h = Run 175 104 (some (.ref v) :: L) (.ref v :: S) h := Rg rfl
set_option maxRecDepth 100000 in
theorem e175_104 {L : Lo} {S : List Value} {h : Hp} {x0 x1 x2 : Option Value} {v : Int32} : Run 175 104 (x0 :: x1 :: x2 :: some (.int v) :: L) S h = Run 175 105 (x0 :: x1 :: x2 :: some (.int v) :: L) (.int v :: S) h := Rg rfl
set_option maxRecDepth 100000 in
theorem e175_105 {L : Lo} {S : List Value} {h : Hp} : Run 175 105 L S h = Run 175 106 L (.int 5 :: S) h := Rg rfl
set_option maxRecDepth 100000 in
theorem e175_106 {L : Lo} {S : List Value} {h : Hp} {x0 x1 x2 x3 x4 x5 : Option Value} {v : Int32} : Run 175 106 (x0 :: x1 :: x2 :: x3 :: x4 :: x5 :: some (.int v) :: L) S h = Run 175 108 (x0 :: x1 :: x2 :: x3 :: x4 :: x5 :: some (.int v) :: L) (.int v :: S) h := Rg rfl
set_option maxRecDepth 100000 in
theorem e175_108 {L : Lo} {S : List Value} {h : Hp} {x z : Int32} : Run 175 108 L (.int z :: .int x :: S) h = Run 175 109 L (.int (x + z) :: S) h := Rg rfl
set_option maxRecDepth 100000 in
theorem e175_109 {L : Lo} {S : List Value} {h : Hp} {x0 x1 x2 x3 x4 : Option Value} {v : Int32} : Run 175 109 (x0 :: x1 :: x2 :: x3 :: x4 :: some (.int v) :: L) S h = Run 175 111 (x0 :: x1 :: x2 :: x3 :: x4 :: some (.int v) :: L) (.int v :: S) h := Rg rfl
set_option maxRecDepth 100000 in
theorem e175_111 {L : Lo} {S : List Value} {h : Hp} : Run 175 111 L S h = Run 175 113 L (.int 12 :: S) h := Rg rfl
set_option maxRecDepth 100000 in
theorem e175_113 {L : Lo} {S : List Value} {h : Hp} {x z : Int32} (hz : ¬ z = 0) : Run 175 113 L (.int z :: .int x :: S) h = Run 175 114 L (.int (x / z) :: S) h := Rg (if_neg hz)
set_option maxRecDepth 100000 in
theorem e175_114 {L : Lo} {S : List Value} {h : Hp} : Run 175 114 L S h = Run 175 115 L (.int 0 :: S) h := Rg rfl
set_option maxRecDepth 100000 in
theorem e175_115 {L : Lo} {h : Hp} {a4 : Int32} {a3 : Int32} {a2 : Int32} {a1 : Int32} {a0 : Nat} (hO : isO h a0 9 = true) : Run 175 115 L [.int a4, .int a3, .int a2, .int a1, .ref a0] h = (Run 173 0 [some (.ref a0), some (.int a1), some (.int a2), some (.int a3), some (.int a4), none] [] h).bind fun o => aft 175 115 118 L [] o := Rcv (c := 173) (As := [.int a1, .int a2, .int a3, .int a4]) (S' := []) (pc' := 118) 9 rfl hO
set_option maxRecDepth 100000 in
theorem e175_118 {L : Lo} {S : List Value} {h : Hp} {x0 x1 x2 x3 x4 x5 x6 : Option Value} {y : Option Value} {v : Int32} : Run 175 118 (x0 :: x1 :: x2 :: x3 :: x4 :: x5 :: x6 :: y :: L) (.int v :: S) h = Run 175 120 (x0 :: x1 :: x2 :: x3 :: x4 :: x5 :: ck x6 :: some (.int v) :: L) S h := Rg rfl
set_option maxRecDepth 100000 in
theorem e175_120 {L : Lo} {S : List Value} {h : Hp} {v : Nat} : Run 175 120 (some (.ref v) :: L) S h = Run 175 121 (some (.ref v) :: L) (.ref v :: S) h := Rg rfl
set_option maxRecDepth 100000 in
theorem e175_121 {L : Lo} {S : List Value} {h : Hp} {x0 x1 x2 : Option Value} {v : Int32} : Run 175 121 (x0 :: x1 :: x2 :: some (.int v) :: L) S h = Run 175 122 (x0 :: x1 :: x2 :: some (.int v) :: L) (.int v :: S) h := Rg rfl
set_option maxRecDepth 100000 in
theorem e175_122 {L : Lo} {S : List Value} {h : Hp} : Run 175 122 L S h = Run 175 123 L (.int 3 :: S) h := Rg rfl
set_option maxRecDepth 100000 in
theorem e175_123 {L : Lo} {S : List Value} {h : Hp} {x0 x1 x2 x3 x4 : Option Value} {v : Int32} : Run 175 123 (x0 :: x1 :: x2 :: x3 :: x4 :: some (.int v) :: L) S h = Run 175 125 (x0 :: x1 :: x2 :: x3 :: x4 :: some (.int v) :: L) (.int v :: S) h := Rg rfl
set_option maxRecDepth 100000 in
theorem e175_125 {L : Lo} {S : List Value} {h : Hp} : Run 175 125 L S h = Run 175 126 L (.int 4 :: S) h := Rg rfl
set_option maxRecDepth 100000 in
theorem e175_126 {L : Lo} {S : List Value} {h : Hp} {x z : Int32} (hz : ¬ z = 0) : Run 175 126 L (.int z :: .int x :: S) h = Run 175 127 L (.int (x / z) :: S) h := Rg (if_neg hz)
set_option maxRecDepth 100000 in
theorem e175_127 {L : Lo} {S : List Value} {h : Hp} : Run 175 127 L S h = Run 175 128 L (.int 0 :: S) h := Rg rfl
set_option maxRecDepth 100000 in
theorem e175_128 {L : Lo} {h : Hp} {a4 : Int32} {a3 : Int32} {a2 : Int32} {a1 : Int32} {a0 : Nat} (hO : isO h a0 9 = true) : Run 175 128 L [.int a4, .int a3, .int a2, .int a1, .ref a0] h = (Run 173 0 [some (.ref a0), some (.int a1), some (.int a2), some (.int a3), some (.int a4), none] [] h).bind fun o => aft 175 128 131 L [] o := Rcv (c := 173) (As := [.int a1, .int a2, .int a3, .int a4]) (S' := []) (pc' := 131) 9 rfl hO
set_option maxRecDepth 100000 in
theorem e175_131 {L : Lo} {S : List Value} {h : Hp} {x0 x1 x2 x3 x4 x5 x6 x7 : Option Value} {y : Option Value} {v : Int32} : Run 175 131 (x0 :: x1 :: x2 :: x3 :: x4 :: x5 :: x6 :: x7 :: y :: L) (.int v :: S) h = Run 175 133 (x0 :: x1 :: x2 :: x3 :: x4 :: x5 :: x6 :: ck x7 :: some (.int v) :: L) S h := Rg rfl
set_option maxRecDepth 100000 in
theorem e175_133 {L : Lo} {S : List Value} {h : Hp} {v : Nat} : Run 175 133 (some (.ref v) :: L) S h = Run 175 134 (some (.ref v) :: L) (.ref v :: S) h := Rg rfl
set_option maxRecDepth 100000 in
theorem e175_134 {L : Lo} {S : List Value} {h : Hp} {x0 x1 x2 : Option Value} {v : Int32} : Run 175 134 (x0 :: x1 :: x2 :: some (.int v) :: L) S h = Run 175 135 (x0 :: x1 :: x2 :: some (.int v) :: L) (.int v :: S) h := Rg rfl
set_option maxRecDepth 100000 in
theorem e175_135 {L : Lo} {h : Hp} {a1 : Int32} {a0 : Nat} (hO : isO h a0 9 = true) : Run 175 135 L [.int a1, .ref a0] h = (Run 127 0 [some (.ref a0), some (.int a1)] [] h).bind fun o => aft 175 135 138 L [] o := Rcv (c := 127) (As := [.int a1]) (S' := []) (pc' := 138) 9 rfl hO
set_option maxRecDepth 100000 in
theorem e175_138 {L : Lo} {S : List Value} {h : Hp} {x : Int32} : Run 175 138 L (.int x :: S) h = if x = 0 then Run 175 141 L S h else Run 175 146 L S h := RbrN (c := cnd .ne x 0 = true) (off := 8) rfl rfl cnd_ne
set_option maxRecDepth 100000 in
theorem e175_141 {L : Lo} {S : List Value} {h : Hp} {v : Nat} : Run 175 141 (some (.ref v) :: L) S h = Run 175 142 (some (.ref v) :: L) (.ref v :: S) h := Rg rfl
set_option maxRecDepth 100000 in
theorem e175_142 {L : Lo} {S : List Value} {h : Hp} {x0 x1 x2 : Option Value} {v : Int32} : Run 175 142 (x0 :: x1 :: x2 :: some (.int v) :: L) S h = Run 175 143 (x0 :: x1 :: x2 :: some (.int v) :: L) (.int v :: S) h := Rg rfl
set_option maxRecDepth 100000 in
theorem e175_143 {L : Lo} {h : Hp} {a1 : Int32} {a0 : Nat} (hO : isO h a0 9 = true) : Run 175 143 L [.int a1, .ref a0] h = (Run 174 0 [some (.ref a0), some (.int a1)] [] h).bind fun o => aft 175 143 146 L [] o := Rcv (c := 174) (As := [.int a1]) (S' := []) (pc' := 146) 9 rfl hO
set_option maxRecDepth 100000 in
theorem e175_146 {L : Lo} {S : List Value} {h : Hp} {x0 x1 x2 x3 x4 x5 x6 x7 : Option Value} {v : Int32} : Run 175 146 (x0 :: x1 :: x2 :: x3 :: x4 :: x5 :: x6 :: x7 :: some (.int v) :: L) S h = Run 175 148 (x0 :: x1 :: x2 :: x3 :: x4 :: x5 :: x6 :: x7 :: some (.int v) :: L) (.int v :: S) h := Rg rfl
set_option maxRecDepth 100000 in
theorem e175_148 {L : Lo} {h : Hp} {x : Int32} : Run 175 148 L [.int x] h = some (.inl (some (.int x)), h) := Rd (if_pos (c := narrow .int (.int x) = .int x) rfl)
set_option maxRecDepth 100000 in
theorem e176_0 {L : Lo} {S : List Value} {h : Hp} {v : Nat} : Run 176 0 (some (.ref v) :: L) S h = Run 176 1 (some (.ref v) :: L) (.ref v :: S) h := Rg rfl
set_option maxRecDepth 100000 in
theorem e176_1 {L : Lo} {S : List Value} {h : Hp} {v : Nat} : Run 176 1 (some (.ref v) :: L) S h = Run 176 2 (some (.ref v) :: L) (.ref v :: S) h := Rg rfl
set_option maxRecDepth 100000 in
theorem e176_2 {L : Lo} {S : List Value} {h : Hp} {x0 : Option Value} {v : Int32} : Run 176 2 (x0 :: some (.int v) :: L) S h = Run 176 3 (x0 :: some (.int v) :: L) (.int v :: S) h := Rg rfl
set_option maxRecDepth 100000 in
theorem e176_3 {L : Lo} {S : List Value} {h : Hp} {x0 x1 : Option Value} {v : Int32} : Run 176 3 (x0 :: x1 :: some (.int v) :: L) S h = Run 176 4 (x0 :: x1 :: some (.int v) :: L) (.int v :: S) h := Rg rfl
set_option maxRecDepth 100000 in
theorem e176_4 {L : Lo} {S : List Value} {h : Hp} {x : Int32} : Run 176 4 L (.int x :: S) h = if x = 0 then Run 176 11 L S h else Run 176 7 L S h := Rbr (c := cnd .eq x 0 = true) (off := 7) rfl rfl cnd_eq
set_option maxRecDepth 100000 in
theorem e176_7 {L : Lo} {S : List Value} {h : Hp} : Run 176 7 L S h = Run 176 8 L (.int 1 :: S) h := Rg rfl
set_option maxRecDepth 100000 in
theorem e176_8 {L : Lo} {S : List Value} {h : Hp} : Run 176 8 L S h = Run 176 12 L S h := Rg rfl
set_option maxRecDepth 100000 in
theorem e176_11 {L : Lo} {S : List Value} {h : Hp} : Run 176 11 L S h = Run 176 12 L (.int 0 :: S) h := Rg rfl
set_option maxRecDepth 100000 in
theorem e176_12 {L : Lo} {S : List Value} {h : Hp} {x0 x1 x2 : Option Value} {v : Int32} : Run 176 12 (x0 :: x1 :: x2 :: some (.int v) :: L) S h = Run 176 13 (x0 :: x1 :: x2 :: some (.int v) :: L) (.int v :: S) h := Rg rfl
set_option maxRecDepth 100000 in
theorem e176_13 {L : Lo} {S : List Value} {h : Hp} {x0 x1 x2 x3 : Option Value} {v : Int32} : Run 176 13 (x0 :: x1 :: x2 :: x3 :: some (.int v) :: L) S h = Run 176 15 (x0 :: x1 :: x2 :: x3 :: some (.int v) :: L) (.int v :: S) h := Rg rfl
set_option maxRecDepth 100000 in
theorem e176_15 {L : Lo} {h : Hp} {a5 : Int32} {a4 : Int32} {a3 : Int32} {a2 : Int32} {a1 : Nat} {a0 : Nat} (hO : isO h a1 9 = true) : Run 176 15 L [.int a5, .int a4, .int a3, .int a2, .ref a1, .ref a0] h = (Run 172 0 [some (.ref a1), some (.int a2), some (.int a3), some (.int a4), some (.int a5), none, none] [] h).bind fun o => aft 176 15 18 L [.ref a0] o := Rcv (c := 172) (As := [.int a2, .int a3, .int a4, .int a5]) (S' := [.ref a0]) (pc' := 18) 9 rfl hO
set_option maxRecDepth 100000 in
theorem e176_18 {L : Lo} {S : List Value} {h : Hp} {b : Nat} {v : Value} : Run 176 18 L (v :: .ref b :: S) h = (pf h 9 5 b v).bind fun h1 => Run 176 21 L S h1 := Rb rfl fun _ => rfl
set_option maxRecDepth 100000 in
theorem e176_21 {L : Lo} {S : List Value} {h : Hp} {v : Nat} : Run 176 21 (some (.ref v) :: L) S h = Run 176 22 (some (.ref v) :: L) (.ref v :: S) h := Rg rfl
set_option maxRecDepth 100000 in
theorem e176_22 {L : Lo} {S : List Value} {h : Hp} {b : Nat} : Run 176 22 L (.ref b :: S) h = (gf h 9 5 b).bind fun v => Run 176 25 L (v :: S) h := Rb rfl fun _ => rfl
set_option maxRecDepth 100000 in
theorem e176_25 {L : Lo} {S : List Value} {h : Hp} {x : Int32} : Run 176 25 L (.int x :: S) h = if x = 0 then Run 176 30 L S h else Run 176 28 L S h := Rbr (c := cnd .eq x 0 = true) (off := 5) rfl rfl cnd_eq
set_option maxRecDepth 100000 in
theorem e176_28 {L : Lo} {S : List Value} {h : Hp} : Run 176 28 L S h = Run 176 29 L (.int 0 :: S) h := Rg rfl
set_option maxRecDepth 100000 in
theorem e176_29 {L : Lo} {h : Hp} {x : Int32} : Run 176 29 L [.int x] h = some (.inl (some (.int x)), h) := Rd (if_pos (c := narrow .int (.int x) = .int x) rfl)
set_option maxRecDepth 100000 in
theorem e176_30 {L : Lo} {S : List Value} {h : Hp} {v : Nat} : Run 176 30 (some (.ref v) :: L) S h = Run 176 31 (some (.ref v) :: L) (.ref v :: S) h := Rg rfl
set_option maxRecDepth 100000 in
theorem e176_31 {L : Lo} {h : Hp} {a0 : Nat} (hO : isO h a0 9 = true) : Run 176 31 L [.ref a0] h = (Run 121 0 [some (.ref a0), none] [] h).bind fun o => aft 176 31 34 L [] o := Rcv (c := 121) (As := []) (S' := []) (pc' := 34) 9 rfl hO
set_option maxRecDepth 100000 in
theorem e176_34 {L : Lo} {S : List Value} {h : Hp} {v : Nat} : Run 176 34 (some (.ref v) :: L) S h = Run 176 35 (some (.ref v) :: L) (.ref v :: S) h := Rg rfl
set_option maxRecDepth 100000 in
theorem e176_35 {L : Lo} {S : List Value} {h : Hp} {x0 : Option Value} {v : Int32} : Run 176 35 (x0 :: some (.int v) :: L) S h = Run 176 36 (x0 :: some (.int v) :: L) (.int v :: S) h := Rg rfl
set_option maxRecDepth 100000 in
theorem e176_36 {L : Lo} {S : List Value} {h : Hp} {x0 x1 : Option Value} {v : Int32} : Run 176 36 (x0 :: x1 :: some (.int v) :: L) S h = Run 176 37 (x0 :: x1 :: some (.int v) :: L) (.int v :: S) h := Rg rfl
set_option maxRecDepth 100000 in
theorem e176_37 {L : Lo} {S : List Value} {h : Hp} {x : Int32} : Run 176 37 L (.int x :: S) h = if x = 0 then Run 176 44 L S h else Run 176 40 L S h := Rbr (c := cnd .eq x 0 = true) (off := 7) rfl rfl cnd_eq
set_option maxRecDepth 100000 in
theorem e176_40 {L : Lo} {S : List Value} {h : Hp} : Run 176 40 L S h = Run 176 41 L (.int 1 :: S) h := Rg rfl
set_option maxRecDepth 100000 in
theorem e176_41 {L : Lo} {S : List Value} {h : Hp} : Run 176 41 L S h = Run 176 45 L S h := Rg rfl
set_option maxRecDepth 100000 in
theorem e176_44 {L : Lo} {S : List Value} {h : Hp} : Run 176 44 L S h = Run 176 45 L (.int 0 :: S) h := Rg rfl
set_option maxRecDepth 100000 in
theorem e176_45 {L : Lo} {S : List Value} {h : Hp} {x0 x1 x2 : Option Value} {v : Int32} : Run 176 45 (x0 :: x1 :: x2 :: some (.int v) :: L) S h = Run 176 46 (x0 :: x1 :: x2 :: some (.int v) :: L) (.int v :: S) h := Rg rfl
set_option maxRecDepth 100000 in
theorem e176_46 {L : Lo} {S : List Value} {h : Hp} {x0 x1 x2 x3 : Option Value} {v : Int32} : Run 176 46 (x0 :: x1 :: x2 :: x3 :: some (.int v) :: L) S h = Run 176 48 (x0 :: x1 :: x2 :: x3 :: some (.int v) :: L) (.int v :: S) h := Rg rfl
set_option maxRecDepth 100000 in
theorem e176_48 {L : Lo} {h : Hp} {a4 : Int32} {a3 : Int32} {a2 : Int32} {a1 : Int32} {a0 : Nat} (hO : isO h a0 9 = true) : Run 176 48 L [.int a4, .int a3, .int a2, .int a1, .ref a0] h = (Run 175 0 [some (.ref a0), some (.int a1), some (.int a2), some (.int a3), some (.int a4), none, none, none, none] [] h).bind fun o => aft 176 48 51 L [] o := Rcv (c := 175) (As := [.int a1, .int a2, .int a3, .int a4]) (S' := []) (pc' := 51) 9 rfl hO
set_option maxRecDepth 100000 in
theorem e176_51 {L : Lo} {h : Hp} {x : Int32} : Run 176 51 L [.int x] h = some (.inl (some (.int x)), h) := Rd (if_pos (c := narrow .int (.int x) = .int x) rfl)
set_option maxRecDepth 100000 in
theorem e177_0 {L : Lo} {S : List Value} {h : Hp} : Run 177 0 L S h = Run 177 1 L (.int 0 :: S) h := Rg rfl
set_option maxRecDepth 100000 in
theorem e177_1 {L : Lo} {S : List Value} {h : Hp} {x0 : Option Value} {y : Option Value} {v : Int32} : Run 177 1 (x0 :: y :: L) (.int v :: S) h = Run 177 2 (ck x0 :: some (.int v) :: L) S h := Rg rfl
set_option maxRecDepth 100000 in
theorem e177_2 {L : Lo} {S : List Value} {h : Hp} : Run 177 2 L S h = Run 177 3 L (.int 0 :: S) h := Rg rfl
set_option maxRecDepth 100000 in
theorem e177_3 {L : Lo} {S : List Value} {h : Hp} {x0 x1 : Option Value} {y : Option Value} {v : Int32} : Run 177 3 (x0 :: x1 :: y :: L) (.int v :: S) h = Run 177 4 (x0 :: ck x1 :: some (.int v) :: L) S h := Rg rfl
set_option maxRecDepth 100000 in
theorem e177_4 {L : Lo} {S : List Value} {h : Hp} {x0 x1 : Option Value} {v : Int32} : Run 177 4 (x0 :: x1 :: some (.int v) :: L) S h = Run 177 5 (x0 :: x1 :: some (.int v) :: L) (.int v :: S) h := Rg rfl
set_option maxRecDepth 100000 in
theorem e177_5 {L : Lo} {S : List Value} {h : Hp} {v : Nat} : Run 177 5 (some (.ref v) :: L) S h = Run 177 6 (some (.ref v) :: L) (.ref v :: S) h := Rg rfl
set_option maxRecDepth 100000 in
theorem e177_6 {L : Lo} {S : List Value} {h : Hp} {b : Nat} : Run 177 6 L (.ref b :: S) h = (gf h 9 0 b).bind fun v => Run 177 9 L (v :: S) h := Rb rfl fun _ => rfl
set_option maxRecDepth 100000 in
theorem e177_9 {L : Lo} {S : List Value} {h : Hp} : Run 177 9 L S h = Run 177 10 L (.int 5 :: S) h := Rg rfl
set_option maxRecDepth 100000 in
theorem e177_10 {L : Lo} {S : List Value} {h : Hp} {i : Int32} {b : Nat} : Run 177 10 L (.int i :: .ref b :: S) h = (gaI h b i).bind fun v => Run 177 11 L (.int v :: S) h := Rb rfl fun _ => rfl
set_option maxRecDepth 100000 in
theorem e177_11 {L : Lo} {S : List Value} {h : Hp} {x z : Int32} : Run 177 11 L (.int z :: .int x :: S) h = if z ≤ x then Run 177 39 L S h else Run 177 14 L S h := Rbr (c := cnd .ge x z = true) (off := 28) rfl rfl cnd_ge
set_option maxRecDepth 100000 in
theorem e177_14 {L : Lo} {S : List Value} {h : Hp} {x0 : Option Value} {v : Int32} : Run 177 14 (x0 :: some (.int v) :: L) S h = Run 177 15 (x0 :: some (.int v) :: L) (.int v :: S) h := Rg rfl
set_option maxRecDepth 100000 in
theorem e177_15 {L : Lo} {S : List Value} {h : Hp} {v : Nat} : Run 177 15 (some (.ref v) :: L) S h = Run 177 16 (some (.ref v) :: L) (.ref v :: S) h := Rg rfl
set_option maxRecDepth 100000 in
theorem e177_16 {L : Lo} {S : List Value} {h : Hp} {x0 x1 : Option Value} {v : Int32} : Run 177 16 (x0 :: x1 :: some (.int v) :: L) S h = Run 177 17 (x0 :: x1 :: some (.int v) :: L) (.int v :: S) h := Rg rfl
set_option maxRecDepth 100000 in
theorem e177_17 {L : Lo} {S : List Value} {h : Hp} : Run 177 17 L S h = Run 177 19 L (.int 11 :: S) h := Rg rfl
set_option maxRecDepth 100000 in
theorem e177_19 {L : Lo} {h : Hp} {a3 : Int32} {a2 : Int32} {a1 : Nat} {a0 : Int32} (hO : isO h a1 9 = true) : Run 177 19 L [.int a3, .int a2, .ref a1, .int a0] h = (Run 125 0 [some (.ref a1), some (.int a2), some (.int a3)] [] h).bind fun o => aft 177 19 22 L [.int a0] o := Rcv (c := 125) (As := [.int a2, .int a3]) (S' := [.int a0]) (pc' := 22) 9 rfl hO
set_option maxRecDepth 100000 in
theorem e177_22 {L : Lo} {S : List Value} {h : Hp} : Run 177 22 L S h = Run 177 23 L (.int (-1) :: S) h := Rg rfl
set_option maxRecDepth 100000 in
theorem e177_23 {L : Lo} {S : List Value} {h : Hp} {x z : Int32} : Run 177 23 L (.int z :: .int x :: S) h = if x = z then Run 177 30 L S h else Run 177 26 L S h := Rbr (c := cnd .eq x z = true) (off := 7) rfl rfl cnd_eq
set_option maxRecDepth 100000 in
theorem e177_26 {L : Lo} {S : List Value} {h : Hp} : Run 177 26 L S h = Run 177 27 L (.int 1 :: S) h := Rg rfl
set_option maxRecDepth 100000 in
theorem e177_27 {L : Lo} {S : List Value} {h : Hp} : Run 177 27 L S h = Run 177 31 L S h := Rg rfl
set_option maxRecDepth 100000 in
theorem e177_30 {L : Lo} {S : List Value} {h : Hp} : Run 177 30 L S h = Run 177 31 L (.int 0 :: S) h := Rg rfl
set_option maxRecDepth 100000 in
theorem e177_31 {L : Lo} {S : List Value} {h : Hp} {x z : Int32} : Run 177 31 L (.int z :: .int x :: S) h = Run 177 32 L (.int (x + z) :: S) h := Rg rfl
set_option maxRecDepth 100000 in
theorem e177_32 {L : Lo} {S : List Value} {h : Hp} {x0 : Option Value} {y : Option Value} {v : Int32} : Run 177 32 (x0 :: y :: L) (.int v :: S) h = Run 177 33 (ck x0 :: some (.int v) :: L) S h := Rg rfl
set_option maxRecDepth 100000 in
theorem e177_33 {L : Lo} {S : List Value} {h : Hp} {x0 x1 : Option Value} {v : Int32} : Run 177 33 (x0 :: x1 :: some (.int v) :: L) S h = Run 177 36 (x0 :: x1 :: some (.int (v + 1)) :: L) S h := Rg rfl
set_option maxRecDepth 100000 in
theorem e177_36 {L : Lo} {S : List Value} {h : Hp} : Run 177 36 L S h = Run 177 4 L S h := Rg rfl
set_option maxRecDepth 100000 in
theorem e177_39 {L : Lo} {S : List Value} {h : Hp} {x0 : Option Value} {v : Int32} : Run 177 39 (x0 :: some (.int v) :: L) S h = Run 177 40 (x0 :: some (.int v) :: L) (.int v :: S) h := Rg rfl
set_option maxRecDepth 100000 in
theorem e177_40 {L : Lo} {h : Hp} {x : Int32} : Run 177 40 L [.int x] h = some (.inl (some (.int x)), h) := Rd (if_pos (c := narrow .int (.int x) = .int x) rfl)
set_option maxRecDepth 100000 in
theorem e178_0 {L : Lo} {S : List Value} {h : Hp} {v : Nat} : Run 178 0 (some (.ref v) :: L) S h = Run 178 1 (some (.ref v) :: L) (.ref v :: S) h := Rg rfl
set_option maxRecDepth 100000 in
theorem e178_1 {L : Lo} {S : List Value} {h : Hp} {x0 : Option Value} {v : Int32} : Run 178 1 (x0 :: some (.int v) :: L) S h = Run 178 2 (x0 :: some (.int v) :: L) (.int v :: S) h := Rg rfl
set_option maxRecDepth 100000 in
theorem e178_2 {L : Lo} {h : Hp} {a1 : Int32} {a0 : Nat} (hO : isO h a0 9 = true) : Run 178 2 L [.int a1, .ref a0] h = (Run 127 0 [some (.ref a0), some (.int a1)] [] h).bind fun o => aft 178 2 5 L [] o := Rcv (c := 127) (As := [.int a1]) (S' := []) (pc' := 5) 9 rfl hO
set_option maxRecDepth 100000 in
theorem e178_5 {L : Lo} {S : List Value} {h : Hp} {x : Int32} : Run 178 5 L (.int x :: S) h = if x = 0 then Run 178 35 L S h else Run 178 8 L S h := Rbr (c := cnd .eq x 0 = true) (off := 30) rfl rfl cnd_eq
set_option maxRecDepth 100000 in
theorem e178_8 {L : Lo} {S : List Value} {h : Hp} {v : Nat} : Run 178 8 (some (.ref v) :: L) S h = Run 178 9 (some (.ref v) :: L) (.ref v :: S) h := Rg rfl
set_option maxRecDepth 100000 in
theorem e178_9 {L : Lo} {S : List Value} {h : Hp} {x0 x1 : Option Value} {v : Int32} : Run 178 9 (x0 :: x1 :: some (.int v) :: L) S h = Run 178 10 (x0 :: x1 :: some (.int v) :: L) (.int v :: S) h := Rg rfl
set_option maxRecDepth 100000 in
theorem e178_10 {L : Lo} {h : Hp} {a1 : Int32} {a0 : Nat} (hO : isO h a0 9 = true) : Run 178 10 L [.int a1, .ref a0] h = (Run 127 0 [some (.ref a0), some (.int a1)] [] h).bind fun o => aft 178 10 13 L [] o := Rcv (c := 127) (As := [.int a1]) (S' := []) (pc' := 13) 9 rfl hO
set_option maxRecDepth 100000 in
theorem e178_13 {L : Lo} {S : List Value} {h : Hp} {x : Int32} : Run 178 13 L (.int x :: S) h = if x = 0 then Run 178 35 L S h else Run 178 16 L S h := Rbr (c := cnd .eq x 0 = true) (off := 22) rfl rfl cnd_eq
set_option maxRecDepth 100000 in
theorem e178_16 {L : Lo} {S : List Value} {h : Hp} {v : Nat} : Run 178 16 (some (.ref v) :: L) S h = Run 178 17 (some (.ref v) :: L) (.ref v :: S) h := Rg rfl
set_option maxRecDepth 100000 in
theorem e178_17 {L : Lo} {S : List Value} {h : Hp} {x0 : Option Value} {v : Int32} : Run 178 17 (x0 :: some (.int v) :: L) S h = Run 178 18 (x0 :: some (.int v) :: L) (.int v :: S) h := Rg rfl
set_option maxRecDepth 100000 in
theorem e178_18 {L : Lo} {S : List Value} {h : Hp} : Run 178 18 L S h = Run 178 19 L (.int 0 :: S) h := Rg rfl
set_option maxRecDepth 100000 in
theorem e178_19 {L : Lo} {h : Hp} {a2 : Int32} {a1 : Int32} {a0 : Nat} (hO : isO h a0 9 = true) : Run 178 19 L [.int a2, .int a1, .ref a0] h = (Run 125 0 [some (.ref a0), some (.int a1), some (.int a2)] [] h).bind fun o => aft 178 19 22 L [] o := Rcv (c := 125) (As := [.int a1, .int a2]) (S' := []) (pc' := 22) 9 rfl hO
set_option maxRecDepth 100000 in
theorem e178_22 {L : Lo} {S : List Value} {h : Hp} {v : Nat} : Run 178 22 (some (.ref v) :: L) S h = Run 178 23 (some (.ref v) :: L) (.ref v :: S) h := Rg rfl
set_option maxRecDepth 100000 in
theorem e178_23 {L : Lo} {S : List Value} {h : Hp} {x0 x1 : Option Value} {v : Int32} : Run 178 23 (x0 :: x1 :: some (.int v) :: L) S h = Run 178 24 (x0 :: x1 :: some (.int v) :: L) (.int v :: S) h := Rg rfl
set_option maxRecDepth 100000 in
theorem e178_24 {L : Lo} {S : List Value} {h : Hp} : Run 178 24 L S h = Run 178 25 L (.int 0 :: S) h := Rg rfl
set_option maxRecDepth 100000 in
theorem e178_25 {L : Lo} {h : Hp} {a3 : Int32} {a2 : Int32} {a1 : Nat} {a0 : Int32} (hO : isO h a1 9 = true) : Run 178 25 L [.int a3, .int a2, .ref a1, .int a0] h = (Run 125 0 [some (.ref a1), some (.int a2), some (.int a3)] [] h).bind fun o => aft 178 25 28 L [.int a0] o := Rcv (c := 125) (As := [.int a2, .int a3]) (S' := [.int a0]) (pc' := 28) 9 rfl hO
set_option maxRecDepth 100000 in
theorem e178_28 {L : Lo} {S : List Value} {h : Hp} {x z : Int32} : Run 178 28 L (.int z :: .int x :: S) h = if x = z then Run 178 35 L S h else Run 178 31 L S h := Rbr (c := cnd .eq x z = true) (off := 7) rfl rfl cnd_eq
set_option maxRecDepth 100000 in
theorem e178_31 {L : Lo} {S : List Value} {h : Hp} : Run 178 31 L S h = Run 178 32 L (.int 1 :: S) h := Rg rfl
set_option maxRecDepth 100000 in
theorem e178_32 {L : Lo} {S : List Value} {h : Hp} : Run 178 32 L S h = Run 178 36 L S h := Rg rfl
set_option maxRecDepth 100000 in
theorem e178_35 {L : Lo} {S : List Value} {h : Hp} : Run 178 35 L S h = Run 178 36 L (.int 0 :: S) h := Rg rfl
set_option maxRecDepth 100000 in
theorem e178_36 {L : Lo} {S : List Value} {h : Hp} {x0 x1 x2 : Option Value} {y : Option Value} {v : Int32} : Run 178 36 (x0 :: x1 :: x2 :: y :: L) (.int v :: S) h = Run 178 37 (x0 :: x1 :: ck x2 :: some (.int v) :: L) S h := Rg rfl
set_option maxRecDepth 100000 in
theorem e178_37 {L : Lo} {S : List Value} {h : Hp} {x0 x1 x2 : Option Value} {v : Int32} : Run 178 37 (x0 :: x1 :: x2 :: some (.int v) :: L) S h = Run 178 38 (x0 :: x1 :: x2 :: some (.int v) :: L) (.int v :: S) h := Rg rfl
set_option maxRecDepth 100000 in
theorem e178_38 {L : Lo} {S : List Value} {h : Hp} {x : Int32} : Run 178 38 L (.int x :: S) h = if x = 0 then Run 178 87 L S h else Run 178 41 L S h := Rbr (c := cnd .eq x 0 = true) (off := 49) rfl rfl cnd_eq
set_option maxRecDepth 100000 in
theorem e178_41 {L : Lo} {S : List Value} {h : Hp} {v : Nat} : Run 178 41 (some (.ref v) :: L) S h = Run 178 42 (some (.ref v) :: L) (.ref v :: S) h := Rg rfl
set_option maxRecDepth 100000 in
theorem e178_42 {L : Lo} {S : List Value} {h : Hp} {x0 : Option Value} {v : Int32} : Run 178 42 (x0 :: some (.int v) :: L) S h = Run 178 43 (x0 :: some (.int v) :: L) (.int v :: S) h := Rg rfl
set_option maxRecDepth 100000 in
theorem e178_43 {L : Lo} {S : List Value} {h : Hp} : Run 178 43 L S h = Run 178 45 L (.int 11 :: S) h := Rg rfl
set_option maxRecDepth 100000 in
theorem e178_45 {L : Lo} {h : Hp} {a2 : Int32} {a1 : Int32} {a0 : Nat} (hO : isO h a0 9 = true) : Run 178 45 L [.int a2, .int a1, .ref a0] h = (Run 125 0 [some (.ref a0), some (.int a1), some (.int a2)] [] h).bind fun o => aft 178 45 48 L [] o := Rcv (c := 125) (As := [.int a1, .int a2]) (S' := []) (pc' := 48) 9 rfl hO
set_option maxRecDepth 100000 in
theorem e178_48 {L : Lo} {S : List Value} {h : Hp} : Run 178 48 L S h = Run 178 49 L (.int (-1) :: S) h := Rg rfl
set_option maxRecDepth 100000 in
theorem e178_49 {L : Lo} {S : List Value} {h : Hp} {x z : Int32} : Run 178 49 L (.int z :: .int x :: S) h = if x = z then Run 178 52 L S h else Run 178 87 L S h := RbrN (c := cnd .ne x z = true) (off := 38) rfl rfl cnd_ne
set_option maxRecDepth 100000 in
theorem e178_52 {L : Lo} {S : List Value} {h : Hp} {v : Nat} : Run 178 52 (some (.ref v) :: L) S h = Run 178 53 (some (.ref v) :: L) (.ref v :: S) h := Rg rfl
set_option maxRecDepth 100000 in
theorem e178_53 {L : Lo} {S : List Value} {h : Hp} {x0 x1 : Option Value} {v : Int32} : Run 178 53 (x0 :: x1 :: some (.int v) :: L) S h = Run 178 54 (x0 :: x1 :: some (.int v) :: L) (.int v :: S) h := Rg rfl
set_option maxRecDepth 100000 in
theorem e178_54 {L : Lo} {S : List Value} {h : Hp} : Run 178 54 L S h = Run 178 56 L (.int 11 :: S) h := Rg rfl
set_option maxRecDepth 100000 in
theorem e178_56 {L : Lo} {h : Hp} {a2 : Int32} {a1 : Int32} {a0 : Nat} (hO : isO h a0 9 = true) : Run 178 56 L [.int a2, .int a1, .ref a0] h = (Run 125 0 [some (.ref a0), some (.int a1), some (.int a2)] [] h).bind fun o => aft 178 56 59 L [] o := Rcv (c := 125) (As := [.int a1, .int a2]) (S' := []) (pc' := 59) 9 rfl hO
set_option maxRecDepth 100000 in
theorem e178_59 {L : Lo} {S : List Value} {h : Hp} : Run 178 59 L S h = Run 178 60 L (.int (-1) :: S) h := Rg rfl
set_option maxRecDepth 100000 in
theorem e178_60 {L : Lo} {S : List Value} {h : Hp} {x z : Int32} : Run 178 60 L (.int z :: .int x :: S) h = if x = z then Run 178 63 L S h else Run 178 87 L S h := RbrN (c := cnd .ne x z = true) (off := 27) rfl rfl cnd_ne
set_option maxRecDepth 100000 in
theorem e178_63 {L : Lo} {S : List Value} {h : Hp} {v : Nat} : Run 178 63 (some (.ref v) :: L) S h = Run 178 64 (some (.ref v) :: L) (.ref v :: S) h := Rg rfl
set_option maxRecDepth 100000 in
theorem e178_64 {L : Lo} {S : List Value} {h : Hp} {v : Nat} : Run 178 64 (some (.ref v) :: L) S h = Run 178 65 (some (.ref v) :: L) (.ref v :: S) h := Rg rfl
set_option maxRecDepth 100000 in
theorem e178_65 {L : Lo} {S : List Value} {h : Hp} {x0 : Option Value} {v : Int32} : Run 178 65 (x0 :: some (.int v) :: L) S h = Run 178 66 (x0 :: some (.int v) :: L) (.int v :: S) h := Rg rfl
set_option maxRecDepth 100000 in
theorem e178_66 {L : Lo} {S : List Value} {h : Hp} : Run 178 66 L S h = Run 178 67 L (.int 1 :: S) h := Rg rfl
set_option maxRecDepth 100000 in
theorem e178_67 {L : Lo} {h : Hp} {a3 : Int32} {a2 : Int32} {a1 : Nat} {a0 : Nat} (hO : isO h a1 9 = true) : Run 178 67 L [.int a3, .int a2, .ref a1, .ref a0] h = (Run 125 0 [some (.ref a1), some (.int a2), some (.int a3)] [] h).bind fun o => aft 178 67 70 L [.ref a0] o := Rcv (c := 125) (As := [.int a2, .int a3]) (S' := [.ref a0]) (pc' := 70) 9 rfl hO
set_option maxRecDepth 100000 in
theorem e178_70 {L : Lo} {S : List Value} {h : Hp} {v : Nat} : Run 178 70 (some (.ref v) :: L) S h = Run 178 71 (some (.ref v) :: L) (.ref v :: S) h := Rg rfl
set_option maxRecDepth 100000 in
theorem e178_71 {L : Lo} {S : List Value} {h : Hp} {x0 x1 : Option Value} {v : Int32} : Run 178 71 (x0 :: x1 :: some (.int v) :: L) S h = Run 178 72 (x0 :: x1 :: some (.int v) :: L) (.int v :: S) h := Rg rfl
set_option maxRecDepth 100000 in
theorem e178_72 {L : Lo} {S : List Value} {h : Hp} : Run 178 72 L S h = Run 178 73 L (.int 1 :: S) h := Rg rfl
set_option maxRecDepth 100000 in
theorem e178_73 {L : Lo} {h : Hp} {a4 : Int32} {a3 : Int32} {a2 : Nat} {a1 : Int32} {a0 : Nat} (hO : isO h a2 9 = true) : Run 178 73 L [.int a4, .int a3, .ref a2, .int a1, .ref a0] h = (Run 125 0 [some (.ref a2), some (.int a3), some (.int a4)] [] h).bind fun o => aft 178 73 76 L [.int a1, .ref a0] o := Rcv (c := 125) (As := [.int a3, .int a4]) (S' := [.int a1, .ref a0]) (pc' := 76) 9 rfl hO
set_option maxRecDepth 100000 in
theorem e178_76 {L : Lo} {h : Hp} {a2 : Int32} {a1 : Int32} {a0 : Nat} (hO : isO h a0 9 = true) : Run 178 76 L [.int a2, .int a1, .ref a0] h = (Run 136 0 [some (.ref a0), some (.int a1), some (.int a2), none, none, none] [] h).bind fun o => aft 178 76 79 L [] o := Rcv (c := 136) (As := [.int a1, .int a2]) (S' := []) (pc' := 79) 9 rfl hO
set_option maxRecDepth 100000 in
theorem e178_79 {L : Lo} {S : List Value} {h : Hp} : Run 178 79 L S h = Run 178 80 L (.int 1 :: S) h := Rg rfl
set_option maxRecDepth 100000 in
theorem e178_80 {L : Lo} {S : List Value} {h : Hp} {x z : Int32} : Run 178 80 L (.int z :: .int x :: S) h = if x = z then Run 178 83 L S h else Run 178 87 L S h := RbrN (c := cnd .ne x z = true) (off := 7) rfl rfl cnd_ne
set_option maxRecDepth 100000 in
theorem e178_83 {L : Lo} {S : List Value} {h : Hp} : Run 178 83 L S h = Run 178 84 L (.int 1 :: S) h := Rg rfl
set_option maxRecDepth 100000 in
theorem e178_84 {L : Lo} {S : List Value} {h : Hp} : Run 178 84 L S h = Run 178 88 L S h := Rg rfl
set_option maxRecDepth 100000 in
theorem e178_87 {L : Lo} {S : List Value} {h : Hp} : Run 178 87 L S h = Run 178 88 L (.int 0 :: S) h := Rg rfl
set_option maxRecDepth 100000 in
theorem e178_88 {L : Lo} {h : Hp} {x : Int32} (hx : narrow .boolean (.int x) = .int x) : Run 178 88 L [.int x] h = some (.inl (some (.int x)), h) := Rd (if_pos hx)
set_option maxRecDepth 100000 in
theorem e179_0 {L : Lo} {S : List Value} {h : Hp} {v : Nat} : Run 179 0 (some (.ref v) :: L) S h = Run 179 1 (some (.ref v) :: L) (.ref v :: S) h := Rg rfl
set_option maxRecDepth 100000 in
theorem e179_1 {L : Lo} {S : List Value} {h : Hp} {v : Nat} : Run 179 1 (some (.ref v) :: L) S h = Run 179 2 (some (.ref v) :: L) (.ref v :: S) h := Rg rfl
set_option maxRecDepth 100000 in
theorem e179_2 {L : Lo} {S : List Value} {h : Hp} {x0 : Option Value} {v : Int32} : Run 179 2 (x0 :: some (.int v) :: L) S h = Run 179 3 (x0 :: some (.int v) :: L) (.int v :: S) h := Rg rfl
set_option maxRecDepth 100000 in
theorem e179_3 {L : Lo} {S : List Value} {h : Hp} {x0 x1 : Option Value} {v : Int32} : Run 179 3 (x0 :: x1 :: some (.int v) :: L) S h = Run 179 4 (x0 :: x1 :: some (.int v) :: L) (.int v :: S) h := Rg rfl
set_option maxRecDepth 100000 in
theorem e179_4 {L : Lo} {h : Hp} {a3 : Int32} {a2 : Int32} {a1 : Nat} {a0 : Nat} (hO : isO h a1 9 = true) : Run 179 4 L [.int a3, .int a2, .ref a1, .ref a0] h = (Run 170 0 [some (.ref a1), some (.int a2), some (.int a3)] [] h).bind fun o => aft 179 4 7 L [.ref a0] o := Rcv (c := 170) (As := [.int a2, .int a3]) (S' := [.ref a0]) (pc' := 7) 9 rfl hO
set_option maxRecDepth 100000 in
theorem e179_7 {L : Lo} {S : List Value} {h : Hp} {b : Nat} {v : Value} : Run 179 7 L (v :: .ref b :: S) h = (pf h 9 5 b v).bind fun h1 => Run 179 10 L S h1 := Rb rfl fun _ => rfl
set_option maxRecDepth 100000 in
theorem e179_10 {L : Lo} {S : List Value} {h : Hp} {v : Nat} : Run 179 10 (some (.ref v) :: L) S h = Run 179 11 (some (.ref v) :: L) (.ref v :: S) h := Rg rfl
set_option maxRecDepth 100000 in
theorem e179_11 {L : Lo} {S : List Value} {h : Hp} {v : Nat} : Run 179 11 (some (.ref v) :: L) S h = Run 179 12 (some (.ref v) :: L) (.ref v :: S) h := Rg rfl
set_option maxRecDepth 100000 in
theorem e179_12 {L : Lo} {S : List Value} {h : Hp} {b : Nat} : Run 179 12 L (.ref b :: S) h = (gf h 9 5 b).bind fun v => Run 179 15 L (v :: S) h := Rb rfl fun _ => rfl
set_option maxRecDepth 100000 in
theorem e179_15 {L : Lo} {S : List Value} {h : Hp} {x : Int32} : Run 179 15 L (.int x :: S) h = if x = 0 then Run 179 25 L S h else Run 179 18 L S h := Rbr (c := cnd .eq x 0 = true) (off := 10) rfl rfl cnd_eq
set_option maxRecDepth 100000 in
theorem e179_18 {L : Lo} {S : List Value} {h : Hp} {v : Nat} : Run 179 18 (some (.ref v) :: L) S h = Run 179 19 (some (.ref v) :: L) (.ref v :: S) h := Rg rfl
set_option maxRecDepth 100000 in
theorem e179_19 {L : Lo} {S : List Value} {h : Hp} {b : Nat} : Run 179 19 L (.ref b :: S) h = (gf h 9 5 b).bind fun v => Run 179 22 L (v :: S) h := Rb rfl fun _ => rfl
set_option maxRecDepth 100000 in
theorem e179_22 {L : Lo} {S : List Value} {h : Hp} : Run 179 22 L S h = Run 179 39 L S h := Rg rfl
set_option maxRecDepth 100000 in
theorem e179_25 {L : Lo} {S : List Value} {h : Hp} {v : Nat} : Run 179 25 (some (.ref v) :: L) S h = Run 179 26 (some (.ref v) :: L) (.ref v :: S) h := Rg rfl
set_option maxRecDepth 100000 in
theorem e179_26 {L : Lo} {S : List Value} {h : Hp} {x0 : Option Value} {v : Int32} : Run 179 26 (x0 :: some (.int v) :: L) S h = Run 179 27 (x0 :: some (.int v) :: L) (.int v :: S) h := Rg rfl
set_option maxRecDepth 100000 in
theorem e179_27 {L : Lo} {S : List Value} {h : Hp} {x0 x1 : Option Value} {v : Int32} : Run 179 27 (x0 :: x1 :: some (.int v) :: L) S h = Run 179 28 (x0 :: x1 :: some (.int v) :: L) (.int v :: S) h := Rg rfl
set_option maxRecDepth 100000 in
theorem e179_28 {L : Lo} {h : Hp} {a3 : Int32} {a2 : Int32} {a1 : Nat} {a0 : Nat} (hO : isO h a1 9 = true) : Run 179 28 L [.int a3, .int a2, .ref a1, .ref a0] h = (Run 178 0 [some (.ref a1), some (.int a2), some (.int a3), none] [] h).bind fun o => aft 179 28 31 L [.ref a0] o := Rcv (c := 178) (As := [.int a2, .int a3]) (S' := [.ref a0]) (pc' := 31) 9 rfl hO
set_option maxRecDepth 100000 in
theorem e179_31 {L : Lo} {S : List Value} {h : Hp} {x : Int32} : Run 179 31 L (.int x :: S) h = if x = 0 then Run 179 38 L S h else Run 179 34 L S h := Rbr (c := cnd .eq x 0 = true) (off := 7) rfl rfl cnd_eq
set_option maxRecDepth 100000 in
theorem e179_34 {L : Lo} {S : List Value} {h : Hp} : Run 179 34 L S h = Run 179 35 L (.int 0 :: S) h := Rg rfl
set_option maxRecDepth 100000 in
theorem e179_35 {L : Lo} {S : List Value} {h : Hp} : Run 179 35 L S h = Run 179 39 L S h := Rg rfl
set_option maxRecDepth 100000 in
theorem e179_38 {L : Lo} {S : List Value} {h : Hp} : Run 179 38 L S h = Run 179 39 L (.int 3 :: S) h := Rg rfl
set_option maxRecDepth 100000 in
theorem e179_39 {L : Lo} {S : List Value} {h : Hp} {b : Nat} {v : Value} : Run 179 39 L (v :: .ref b :: S) h = (pf h 9 5 b v).bind fun h1 => Run 179 42 L S h1 := Rb rfl fun _ => rfl
set_option maxRecDepth 100000 in
theorem e179_42 {L : Lo} {S : List Value} {h : Hp} {v : Nat} : Run 179 42 (some (.ref v) :: L) S h = Run 179 43 (some (.ref v) :: L) (.ref v :: S) h := Rg rfl
set_option maxRecDepth 100000 in
theorem e179_43 {L : Lo} {S : List Value} {h : Hp} {b : Nat} : Run 179 43 L (.ref b :: S) h = (gf h 9 5 b).bind fun v => Run 179 46 L (v :: S) h := Rb rfl fun _ => rfl
set_option maxRecDepth 100000 in
theorem e179_46 {L : Lo} {S : List Value} {h : Hp} {x : Int32} : Run 179 46 L (.int x :: S) h = if x = 0 then Run 179 51 L S h else Run 179 49 L S h := Rbr (c := cnd .eq x 0 = true) (off := 5) rfl rfl cnd_eq
set_option maxRecDepth 100000 in
theorem e179_49 {L : Lo} {S : List Value} {h : Hp} : Run 179 49 L S h = Run 179 50 L (.int 0 :: S) h := Rg rfl
set_option maxRecDepth 100000 in
theorem e179_50 {L : Lo} {h : Hp} {x : Int32} : Run 179 50 L [.int x] h = some (.inl (some (.int x)), h) := Rd (if_pos (c := narrow .int (.int x) = .int x) rfl)
set_option maxRecDepth 100000 in
theorem e179_51 {L : Lo} {S : List Value} {h : Hp} {v : Nat} : Run 179 51 (some (.ref v) :: L) S h = Run 179 52 (some (.ref v) :: L) (.ref v :: S) h := Rg rfl
set_option maxRecDepth 100000 in
theorem e179_52 {L : Lo} {h : Hp} {a0 : Nat} (hO : isO h a0 9 = true) : Run 179 52 L [.ref a0] h = (Run 121 0 [some (.ref a0), none] [] h).bind fun o => aft 179 52 55 L [] o := Rcv (c := 121) (As := []) (S' := []) (pc' := 55) 9 rfl hO
set_option maxRecDepth 100000 in
theorem e179_55 {L : Lo} {S : List Value} {h : Hp} {v : Nat} : Run 179 55 (some (.ref v) :: L) S h = Run 179 56 (some (.ref v) :: L) (.ref v :: S) h := Rg rfl
set_option maxRecDepth 100000 in
theorem e179_56 {L : Lo} {S : List Value} {h : Hp} {x0 : Option Value} {v : Int32} : Run 179 56 (x0 :: some (.int v) :: L) S h = Run 179 57 (x0 :: some (.int v) :: L) (.int v :: S) h := Rg rfl
set_option maxRecDepth 100000 in
theorem e179_57 {L : Lo} {S : List Value} {h : Hp} : Run 179 57 L S h = Run 179 59 L (.int 11 :: S) h := Rg rfl
set_option maxRecDepth 100000 in
theorem e179_59 {L : Lo} {S : List Value} {h : Hp} {x0 x1 : Option Value} {v : Int32} : Run 179 59 (x0 :: x1 :: some (.int v) :: L) S h = Run 179 60 (x0 :: x1 :: some (.int v) :: L) (.int v :: S) h := Rg rfl
set_option maxRecDepth 100000 in
theorem e179_60 {L : Lo} {h : Hp} {a3 : Int32} {a2 : Int32} {a1 : Int32} {a0 : Nat} (hO : isO h a0 9 = true) : Run 179 60 L [.int a3, .int a2, .int a1, .ref a0] h = (Run 126 0 [some (.ref a0), some (.int a1), some (.int a2), some (.int a3)] [] h).bind fun o => aft 179 60 63 L [] o := Rcv (c := 126) (As := [.int a1, .int a2, .int a3]) (S' := []) (pc' := 63) 9 rfl hO
set_option maxRecDepth 100000 in
theorem e179_63 {L : Lo} {S : List Value} {h : Hp} {v : Nat} : Run 179 63 (some (.ref v) :: L) S h = Run 179 64 (some (.ref v) :: L) (.ref v :: S) h := Rg rfl
set_option maxRecDepth 100000 in
theorem e179_64 {L : Lo} {S : List Value} {h : Hp} {x0 x1 : Option Value} {v : Int32} : Run 179 64 (x0 :: x1 :: some (.int v) :: L) S h = Run 179 65 (x0 :: x1 :: some (.int v) :: L) (.int v :: S) h := Rg rfl
set_option maxRecDepth 100000 in
theorem e179_65 {L : Lo} {S : List Value} {h : Hp} : Run 179 65 L S h = Run 179 67 L (.int 11 :: S) h := Rg rfl
set_option maxRecDepth 100000 in
theorem e179_67 {L : Lo} {S : List Value} {h : Hp} {x0 : Option Value} {v : Int32} : Run 179 67 (x0 :: some (.int v) :: L) S h = Run 179 68 (x0 :: some (.int v) :: L) (.int v :: S) h := Rg rfl
set_option maxRecDepth 100000 in
theorem e179_68 {L : Lo} {h : Hp} {a3 : Int32} {a2 : Int32} {a1 : Int32} {a0 : Nat} (hO : isO h a0 9 = true) : Run 179 68 L [.int a3, .int a2, .int a1, .ref a0] h = (Run 126 0 [some (.ref a0), some (.int a1), some (.int a2), some (.int a3)] [] h).bind fun o => aft 179 68 71 L [] o := Rcv (c := 126) (As := [.int a1, .int a2, .int a3]) (S' := []) (pc' := 71) 9 rfl hO
set_option maxRecDepth 100000 in
theorem e179_71 {L : Lo} {S : List Value} {h : Hp} {v : Nat} : Run 179 71 (some (.ref v) :: L) S h = Run 179 72 (some (.ref v) :: L) (.ref v :: S) h := Rg rfl
set_option maxRecDepth 100000 in
theorem e179_72 {L : Lo} {h : Hp} {a0 : Nat} (hO : isO h a0 9 = true) : Run 179 72 L [.ref a0] h = (Run 177 0 [some (.ref a0), none, none] [] h).bind fun o => aft 179 72 75 L [] o := Rcv (c := 177) (As := []) (S' := []) (pc' := 75) 9 rfl hO
set_option maxRecDepth 100000 in
theorem e179_75 {L : Lo} {h : Hp} {x : Int32} : Run 179 75 L [.int x] h = some (.inl (some (.int x)), h) := Rd (if_pos (c := narrow .int (.int x) = .int x) rfl)
set_option maxRecDepth 100000 in
theorem e180_0 {L : Lo} {S : List Value} {h : Hp} {v : Nat} : Run 180 0 (some (.ref v) :: L) S h = Run 180 1 (some (.ref v) :: L) (.ref v :: S) h := Rg rfl
set_option maxRecDepth 100000 in
theorem e180_1 {L : Lo} {S : List Value} {h : Hp} {v : Nat} : Run 180 1 (some (.ref v) :: L) S h = Run 180 2 (some (.ref v) :: L) (.ref v :: S) h := Rg rfl
set_option maxRecDepth 100000 in
theorem e180_2 {L : Lo} {S : List Value} {h : Hp} {x0 : Option Value} {v : Int32} : Run 180 2 (x0 :: some (.int v) :: L) S h = Run 180 3 (x0 :: some (.int v) :: L) (.int v :: S) h := Rg rfl
set_option maxRecDepth 100000 in
theorem e180_3 {L : Lo} {h : Hp} {a2 : Int32} {a1 : Nat} {a0 : Nat} (hO : isO h a1 9 = true) : Run 180 3 L [.int a2, .ref a1, .ref a0] h = (Run 124 0 [some (.ref a1), some (.int a2)] [] h).bind fun o => aft 180 3 6 L [.ref a0] o := Rcv (c := 124) (As := [.int a2]) (S' := [.ref a0]) (pc' := 6) 9 rfl hO
set_option maxRecDepth 100000 in
theorem e180_6 {L : Lo} {S : List Value} {h : Hp} {x : Int32} : Run 180 6 L (.int x :: S) h = if x = 0 then Run 180 9 L S h else Run 180 13 L S h := RbrN (c := cnd .ne x 0 = true) (off := 7) rfl rfl cnd_ne
set_option maxRecDepth 100000 in
theorem e180_9 {L : Lo} {S : List Value} {h : Hp} : Run 180 9 L S h = Run 180 10 L (.int 1 :: S) h := Rg rfl
set_option maxRecDepth 100000 in
theorem e180_10 {L : Lo} {S : List Value} {h : Hp} : Run 180 10 L S h = Run 180 29 L S h := Rg rfl
set_option maxRecDepth 100000 in
theorem e180_13 {L : Lo} {S : List Value} {h : Hp} {v : Nat} : Run 180 13 (some (.ref v) :: L) S h = Run 180 14 (some (.ref v) :: L) (.ref v :: S) h := Rg rfl
set_option maxRecDepth 100000 in
theorem e180_14 {L : Lo} {S : List Value} {h : Hp} {x0 : Option Value} {v : Int32} : Run 180 14 (x0 :: some (.int v) :: L) S h = Run 180 15 (x0 :: some (.int v) :: L) (.int v :: S) h := Rg rfl
set_option maxRecDepth 100000 in
theorem e180_15 {L : Lo} {S : List Value} {h : Hp} : Run 180 15 L S h = Run 180 17 L (.int 11 :: S) h := Rg rfl
set_option maxRecDepth 100000 in
theorem e180_17 {L : Lo} {h : Hp} {a3 : Int32} {a2 : Int32} {a1 : Nat} {a0 : Nat} (hO : isO h a1 9 = true) : Run 180 17 L [.int a3, .int a2, .ref a1, .ref a0] h = (Run 125 0 [some (.ref a1), some (.int a2), some (.int a3)] [] h).bind fun o => aft 180 17 20 L [.ref a0] o := Rcv (c := 125) (As := [.int a2, .int a3]) (S' := [.ref a0]) (pc' := 20) 9 rfl hO
set_option maxRecDepth 100000 in
theorem e180_20 {L : Lo} {S : List Value} {h : Hp} : Run 180 20 L S h = Run 180 21 L (.int (-1) :: S) h := Rg rfl
set_option maxRecDepth 100000 in
theorem e180_21 {L : Lo} {S : List Value} {h : Hp} {x z : Int32} : Run 180 21 L (.int z :: .int x :: S) h = if x = z then Run 180 24 L S h else Run 180 28 L S h := RbrN (c := cnd .ne x z = true) (off := 7) rfl rfl cnd_ne
set_option maxRecDepth 100000 in
theorem e180_24 {L : Lo} {S : List Value} {h : Hp} : Run 180 24 L S h = Run 180 25 L (.int 2 :: S) h := Rg rfl
set_option maxRecDepth 100000 in
theorem e180_25 {L : Lo} {S : List Value} {h : Hp} : Run 180 25 L S h = Run 180 29 L S h := Rg rfl
set_option maxRecDepth 100000 in
theorem e180_28 {L : Lo} {S : List Value} {h : Hp} : Run 180 28 L S h = Run 180 29 L (.int 0 :: S) h := Rg rfl
set_option maxRecDepth 100000 in
theorem e180_29 {L : Lo} {S : List Value} {h : Hp} {b : Nat} {v : Value} : Run 180 29 L (v :: .ref b :: S) h = (pf h 9 5 b v).bind fun h1 => Run 180 32 L S h1 := Rb rfl fun _ => rfl
set_option maxRecDepth 100000 in
theorem e180_32 {L : Lo} {S : List Value} {h : Hp} {v : Nat} : Run 180 32 (some (.ref v) :: L) S h = Run 180 33 (some (.ref v) :: L) (.ref v :: S) h := Rg rfl
set_option maxRecDepth 100000 in
theorem e180_33 {L : Lo} {S : List Value} {h : Hp} {b : Nat} : Run 180 33 L (.ref b :: S) h = (gf h 9 5 b).bind fun v => Run 180 36 L (v :: S) h := Rb rfl fun _ => rfl
set_option maxRecDepth 100000 in
theorem e180_36 {L : Lo} {S : List Value} {h : Hp} {x : Int32} : Run 180 36 L (.int x :: S) h = if x = 0 then Run 180 41 L S h else Run 180 39 L S h := Rbr (c := cnd .eq x 0 = true) (off := 5) rfl rfl cnd_eq
set_option maxRecDepth 100000 in
theorem e180_39 {L : Lo} {S : List Value} {h : Hp} : Run 180 39 L S h = Run 180 40 L (.int 0 :: S) h := Rg rfl
set_option maxRecDepth 100000 in
theorem e180_40 {L : Lo} {h : Hp} {x : Int32} : Run 180 40 L [.int x] h = some (.inl (some (.int x)), h) := Rd (if_pos (c := narrow .int (.int x) = .int x) rfl)
set_option maxRecDepth 100000 in
theorem e180_41 {L : Lo} {S : List Value} {h : Hp} {v : Nat} : Run 180 41 (some (.ref v) :: L) S h = Run 180 42 (some (.ref v) :: L) (.ref v :: S) h := Rg rfl
set_option maxRecDepth 100000 in
theorem e180_42 {L : Lo} {h : Hp} {a0 : Nat} (hO : isO h a0 9 = true) : Run 180 42 L [.ref a0] h = (Run 121 0 [some (.ref a0), none] [] h).bind fun o => aft 180 42 45 L [] o := Rcv (c := 121) (As := []) (S' := []) (pc' := 45) 9 rfl hO
set_option maxRecDepth 100000 in
theorem e180_45 {L : Lo} {S : List Value} {h : Hp} {v : Nat} : Run 180 45 (some (.ref v) :: L) S h = Run 180 46 (some (.ref v) :: L) (.ref v :: S) h := Rg rfl
set_option maxRecDepth 100000 in
theorem e180_46 {L : Lo} {S : List Value} {h : Hp} {x0 : Option Value} {v : Int32} : Run 180 46 (x0 :: some (.int v) :: L) S h = Run 180 47 (x0 :: some (.int v) :: L) (.int v :: S) h := Rg rfl
set_option maxRecDepth 100000 in
theorem e180_47 {L : Lo} {S : List Value} {h : Hp} : Run 180 47 L S h = Run 180 49 L (.int 11 :: S) h := Rg rfl
set_option maxRecDepth 100000 in
theorem e180_49 {L : Lo} {h : Hp} {a2 : Int32} {a1 : Int32} {a0 : Nat} (hO : isO h a0 9 = true) : Run 180 49 L [.int a2, .int a1, .ref a0] h = (Run 125 0 [some (.ref a0), some (.int a1), some (.int a2)] [] h).bind fun o => aft 180 49 52 L [] o := Rcv (c := 125) (As := [.int a1, .int a2]) (S' := []) (pc' := 52) 9 rfl hO
set_option maxRecDepth 100000 in
theorem e180_52 {L : Lo} {S : List Value} {h : Hp} {x0 x1 : Option Value} {y : Option Value} {v : Int32} : Run 180 52 (x0 :: x1 :: y :: L) (.int v :: S) h = Run 180 53 (x0 :: ck x1 :: some (.int v) :: L) S h := Rg rfl
set_option maxRecDepth 100000 in
theorem e180_53 {L : Lo} {S : List Value} {h : Hp} {v : Nat} : Run 180 53 (some (.ref v) :: L) S h = Run 180 54 (some (.ref v) :: L) (.ref v :: S) h := Rg rfl
set_option maxRecDepth 100000 in
theorem e180_54 {L : Lo} {S : List Value} {h : Hp} {x0 : Option Value} {v : Int32} : Run 180 54 (x0 :: some (.int v) :: L) S h = Run 180 55 (x0 :: some (.int v) :: L) (.int v :: S) h := Rg rfl
set_option maxRecDepth 100000 in
theorem e180_55 {L : Lo} {h : Hp} {a1 : Int32} {a0 : Nat} (hO : isO h a0 9 = true) : Run 180 55 L [.int a1, .ref a0] h = (Run 174 0 [some (.ref a0), some (.int a1)] [] h).bind fun o => aft 180 55 58 L [] o := Rcv (c := 174) (As := [.int a1]) (S' := []) (pc' := 58) 9 rfl hO
set_option maxRecDepth 100000 in
theorem e180_58 {L : Lo} {S : List Value} {h : Hp} {x0 x1 : Option Value} {v : Int32} : Run 180 58 (x0 :: x1 :: some (.int v) :: L) S h = Run 180 59 (x0 :: x1 :: some (.int v) :: L) (.int v :: S) h := Rg rfl
set_option maxRecDepth 100000 in
theorem e180_59 {L : Lo} {h : Hp} {x : Int32} : Run 180 59 L [.int x] h = some (.inl (some (.int x)), h) := Rd (if_pos (c := narrow .int (.int x) = .int x) rfl)
set_option maxRecDepth 100000 in
theorem e181_0 {L : Lo} {S : List Value} {h : Hp} {v : Nat} : Run 181 0 (some (.ref v) :: L) S h = Run 181 1 (some (.ref v) :: L) (.ref v :: S) h := Rg rfl
set_option maxRecDepth 100000 in
theorem e181_1 {L : Lo} {S : List Value} {h : Hp} {x0 : Option Value} {v : Int32} : Run 181 1 (x0 :: some (.int v) :: L) S h = Run 181 2 (x0 :: some (.int v) :: L) (.int v :: S) h := Rg rfl
set_option maxRecDepth 100000 in
theorem e181_2 {L : Lo} {S : List Value} {h : Hp} : Run 181 2 L S h = Run 181 4 L (.int 11 :: S) h := Rg rfl
set_option maxRecDepth 100000 in
theorem e181_4 {L : Lo} {h : Hp} {a2 : Int32} {a1 : Int32} {a0 : Nat} (hO : isO h a0 9 = true) : Run 181 4 L [.int a2, .int a1, .ref a0] h = (Run 125 0 [some (.ref a0), some (.int a1), some (.int a2)] [] h).bind fun o => aft 181 4 7 L [] o := Rcv (c := 125) (As := [.int a1, .int a2]) (S' := []) (pc' := 7) 9 rfl hO
set_option maxRecDepth 100000 in
theorem e181_7 {L : Lo} {S : List Value} {h : Hp} {x0 x1 : Option Value} {y : Option Value} {v : Int32} : Run 181 7 (x0 :: x1 :: y :: L) (.int v :: S) h = Run 181 8 (x0 :: ck x1 :: some (.int v) :: L) S h := Rg rfl
set_option maxRecDepth 100000 in
theorem e181_8 {L : Lo} {S : List Value} {h : Hp} {v : Nat} : Run 181 8 (some (.ref v) :: L) S h = Run 181 9 (some (.ref v) :: L) (.ref v :: S) h := Rg rfl
set_option maxRecDepth 100000 in
theorem e181_9 {L : Lo} {S : List Value} {h : Hp} {x0 : Option Value} {v : Int32} : Run 181 9 (x0 :: some (.int v) :: L) S h = Run 181 10 (x0 :: some (.int v) :: L) (.int v :: S) h := Rg rfl
set_option maxRecDepth 100000 in
theorem e181_10 {L : Lo} {S : List Value} {h : Hp} : Run 181 10 L S h = Run 181 12 L (.int 7 :: S) h := Rg rfl
set_option maxRecDepth 100000 in
theorem e181_12 {L : Lo} {h : Hp} {a2 : Int32} {a1 : Int32} {a0 : Nat} (hO : isO h a0 9 = true) : Run 181 12 L [.int a2, .int a1, .ref a0] h = (Run 125 0 [some (.ref a0), some (.int a1), some (.int a2)] [] h).bind fun o => aft 181 12 15 L [] o := Rcv (c := 125) (As := [.int a1, .int a2]) (S' := []) (pc' := 15) 9 rfl hO
set_option maxRecDepth 100000 in
theorem e181_15 {L : Lo} {S : List Value} {h : Hp} {x0 x1 x2 : Option Value} {y : Option Value} {v : Int32} : Run 181 15 (x0 :: x1 :: x2 :: y :: L) (.int v :: S) h = Run 181 16 (x0 :: x1 :: ck x2 :: some (.int v) :: L) S h := Rg rfl
set_option maxRecDepth 100000 in
theorem e181_16 {L : Lo} {S : List Value} {h : Hp} {v : Nat} : Run 181 16 (some (.ref v) :: L) S h = Run 181 17 (some (.ref v) :: L) (.ref v :: S) h := Rg rfl
set_option maxRecDepth 100000 in
theorem e181_17 {L : Lo} {S : List Value} {h : Hp} {x0 x1 : Option Value} {v : Int32} : Run 181 17 (x0 :: x1 :: some (.int v) :: L) S h = Run 181 18 (x0 :: x1 :: some (.int v) :: L) (.int v :: S) h := Rg rfl
set_option maxRecDepth 100000 in
theorem e181_18 {L : Lo} {S : List Value} {h : Hp} : Run 181 18 L S h = Run 181 20 L (.int 7 :: S) h := Rg rfl
set_option maxRecDepth 100000 in
theorem e181_20 {L : Lo} {h : Hp} {a2 : Int32} {a1 : Int32} {a0 : Nat} (hO : isO h a0 9 = true) : Run 181 20 L [.int a2, .int a1, .ref a0] h = (Run 125 0 [some (.ref a0), some (.int a1), some (.int a2)] [] h).bind fun o => aft 181 20 23 L [] o := Rcv (c := 125) (As := [.int a1, .int a2]) (S' := []) (pc' := 23) 9 rfl hO
set_option maxRecDepth 100000 in
theorem e181_23 {L : Lo} {S : List Value} {h : Hp} {x0 x1 x2 x3 : Option Value} {y : Option Value} {v : Int32} : Run 181 23 (x0 :: x1 :: x2 :: x3 :: y :: L) (.int v :: S) h = Run 181 25 (x0 :: x1 :: x2 :: ck x3 :: some (.int v) :: L) S h := Rg rfl
set_option maxRecDepth 100000 in
theorem e181_25 {L : Lo} {S : List Value} {h : Hp} {x0 x1 x2 : Option Value} {v : Int32} : Run 181 25 (x0 :: x1 :: x2 :: some (.int v) :: L) S h = Run 181 26 (x0 :: x1 :: x2 :: some (.int v) :: L) (.int v :: S) h := Rg rfl
set_option maxRecDepth 100000 in
theorem e181_26 {L : Lo} {S : List Value} {h : Hp} {x0 x1 x2 x3 : Option Value} {v : Int32} : Run 181 26 (x0 :: x1 :: x2 :: x3 :: some (.int v) :: L) S h = Run 181 28 (x0 :: x1 :: x2 :: x3 :: some (.int v) :: L) (.int v :: S) h := Rg rfl
set_option maxRecDepth 100000 in
theorem e181_28 {L : Lo} {S : List Value} {h : Hp} : Run 181 28 L S h = Run 181 29 L (.int 3 :: S) h := Rg rfl
set_option maxRecDepth 100000 in
theorem e181_29 {L : Lo} {S : List Value} {h : Hp} {x z : Int32} : Run 181 29 L (.int z :: .int x :: S) h = Run 181 30 L (.int (x + z) :: S) h := Rg rfl
set_option maxRecDepth 100000 in
theorem e181_30 {L : Lo} {S : List Value} {h : Hp} : Run 181 30 L S h = Run 181 31 L (.int 4 :: S) h := Rg rfl
set_option maxRecDepth 100000 in
theorem e181_31 {L : Lo} {S : List Value} {h : Hp} {x z : Int32} (hz : ¬ z = 0) : Run 181 31 L (.int z :: .int x :: S) h = Run 181 32 L (.int (x / z) :: S) h := Rg (if_neg hz)
set_option maxRecDepth 100000 in
theorem e181_32 {L : Lo} {S : List Value} {h : Hp} {x z : Int32} : Run 181 32 L (.int z :: .int x :: S) h = Run 181 33 L (.int (x - z) :: S) h := Rg rfl
set_option maxRecDepth 100000 in
theorem e181_33 {L : Lo} {S : List Value} {h : Hp} : Run 181 33 L S h = Run 181 34 L (.int 1 :: S) h := Rg rfl
set_option maxRecDepth 100000 in
theorem e181_34 {L : Lo} {S : List Value} {h : Hp} {x z : Int32} : Run 181 34 L (.int z :: .int x :: S) h = if x ≤ z then Run 181 48 L S h else Run 181 37 L S h := Rbr (c := cnd .le x z = true) (off := 14) rfl rfl cnd_le
set_option maxRecDepth 100000 in
theorem e181_37 {L : Lo} {S : List Value} {h : Hp} {x0 x1 x2 : Option Value} {v : Int32} : Run 181 37 (x0 :: x1 :: x2 :: some (.int v) :: L) S h = Run 181 38 (x0 :: x1 :: x2 :: some (.int v) :: L) (.int v :: S) h := Rg rfl
set_option maxRecDepth 100000 in
theorem e181_38 {L : Lo} {S : List Value} {h : Hp} {x0 x1 x2 x3 : Option Value} {v : Int32} : Run 181 38 (x0 :: x1 :: x2 :: x3 :: some (.int v) :: L) S h = Run 181 40 (x0 :: x1 :: x2 :: x3 :: some (.int v) :: L) (.int v :: S) h := Rg rfl
set_option maxRecDepth 100000 in
theorem e181_40 {L : Lo} {S : List Value} {h : Hp} : Run 181 40 L S h = Run 181 41 L (.int 3 :: S) h := Rg rfl
set_option maxRecDepth 100000 in
theorem e181_41 {L : Lo} {S : List Value} {h : Hp} {x z : Int32} : Run 181 41 L (.int z :: .int x :: S) h = Run 181 42 L (.int (x + z) :: S) h := Rg rfl
set_option maxRecDepth 100000 in
theorem e181_42 {L : Lo} {S : List Value} {h : Hp} : Run 181 42 L S h = Run 181 43 L (.int 4 :: S) h := Rg rfl
set_option maxRecDepth 100000 in
theorem e181_43 {L : Lo} {S : List Value} {h : Hp} {x z : Int32} (hz : ¬ z = 0) : Run 181 43 L (.int z :: .int x :: S) h = Run 181 44 L (.int (x / z) :: S) h := Rg (if_neg hz)
set_option maxRecDepth 100000 in
theorem e181_44 {L : Lo} {S : List Value} {h : Hp} {x z : Int32} : Run 181 44 L (.int z :: .int x :: S) h = Run 181 45 L (.int (x - z) :: S) h := Rg rfl
set_option maxRecDepth 100000 in
theorem e181_45 {L : Lo} {S : List Value} {h : Hp} : Run 181 45 L S h = Run 181 49 L S h := Rg rfl
set_option maxRecDepth 100000 in
theorem e181_48 {L : Lo} {S : List Value} {h : Hp} : Run 181 48 L S h = Run 181 49 L (.int 1 :: S) h := Rg rfl
set_option maxRecDepth 100000 in
theorem e181_49 {L : Lo} {S : List Value} {h : Hp} {x0 x1 x2 x3 x4 : Option Value} {y : Option Value} {v : Int32} : Run 181 49 (x0 :: x1 :: x2 :: x3 :: x4 :: y :: L) (.int v :: S) h = Run 181 51 (x0 :: x1 :: x2 :: x3 :: ck x4 :: some (.int v) :: L) S h := Rg rfl
set_option maxRecDepth 100000 in
theorem e181_51 {L : Lo} {S : List Value} {h : Hp} {v : Nat} : Run 181 51 (some (.ref v) :: L) S h = Run 181 52 (some (.ref v) :: L) (.ref v :: S) h := Rg rfl
set_option maxRecDepth 100000 in
theorem e181_52 {L : Lo} {S : List Value} {h : Hp} {x0 : Option Value} {v : Int32} : Run 181 52 (x0 :: some (.int v) :: L) S h = Run 181 53 (x0 :: some (.int v) :: L) (.int v :: S) h := Rg rfl
set_option maxRecDepth 100000 in
theorem e181_53 {L : Lo} {S : List Value} {h : Hp} : Run 181 53 L S h = Run 181 55 L (.int 14 :: S) h := Rg rfl
set_option maxRecDepth 100000 in
theorem e181_55 {L : Lo} {S : List Value} {h : Hp} : Run 181 55 L S h = Run 181 56 L (.int 1 :: S) h := Rg rfl
set_option maxRecDepth 100000 in
theorem e181_56 {L : Lo} {h : Hp} {a3 : Int32} {a2 : Int32} {a1 : Int32} {a0 : Nat} (hO : isO h a0 9 = true) : Run 181 56 L [.int a3, .int a2, .int a1, .ref a0] h = (Run 126 0 [some (.ref a0), some (.int a1), some (.int a2), some (.int a3)] [] h).bind fun o => aft 181 56 59 L [] o := Rcv (c := 126) (As := [.int a1, .int a2, .int a3]) (S' := []) (pc' := 59) 9 rfl hO
set_option maxRecDepth 100000 in
theorem e181_59 {L : Lo} {S : List Value} {h : Hp} {v : Nat} : Run 181 59 (some (.ref v) :: L) S h = Run 181 60 (some (.ref v) :: L) (.ref v :: S) h := Rg rfl
set_option maxRecDepth 100000 in
theorem e181_60 {L : Lo} {S : List Value} {h : Hp} {x0 : Option Value} {v : Int32} : Run 181 60 (x0 :: some (.int v) :: L) S h = Run 181 61 (x0 :: some (.int v) :: L) (.int v :: S) h := Rg rfl
set_option maxRecDepth 100000 in
theorem e181_61 {L : Lo} {S : List Value} {h : Hp} : Run 181 61 L S h = Run 181 63 L (.int 7 :: S) h := Rg rfl
set_option maxRecDepth 100000 in
theorem e181_63 {L : Lo} {S : List Value} {h : Hp} {x0 x1 x2 x3 x4 : Option Value} {v : Int32} : Run 181 63 (x0 :: x1 :: x2 :: x3 :: x4 :: some (.int v) :: L) S h = Run 181 65 (x0 :: x1 :: x2 :: x3 :: x4 :: some (.int v) :: L) (.int v :: S) h := Rg rfl
set_option maxRecDepth 100000 in
theorem e181_65 {L : Lo} {h : Hp} {a3 : Int32} {a2 : Int32} {a1 : Int32} {a0 : Nat} (hO : isO h a0 9 = true) : Run 181 65 L [.int a3, .int a2, .int a1, .ref a0] h = (Run 126 0 [some (.ref a0), some (.int a1), some (.int a2), some (.int a3)] [] h).bind fun o => aft 181 65 68 L [] o := Rcv (c := 126) (As := [.int a1, .int a2, .int a3]) (S' := []) (pc' := 68) 9 rfl hO
set_option maxRecDepth 100000 in
theorem e181_68 {L : Lo} {S : List Value} {h : Hp} {v : Nat} : Run 181 68 (some (.ref v) :: L) S h = Run 181 69 (some (.ref v) :: L) (.ref v :: S) h := Rg rfl
set_option maxRecDepth 100000 in
theorem e181_69 {L : Lo} {S : List Value} {h : Hp} {x0 x1 : Option Value} {v : Int32} : Run 181 69 (x0 :: x1 :: some (.int v) :: L) S h = Run 181 70 (x0 :: x1 :: some (.int v) :: L) (.int v :: S) h := Rg rfl
set_option maxRecDepth 100000 in
theorem e181_70 {L : Lo} {S : List Value} {h : Hp} : Run 181 70 L S h = Run 181 72 L (.int 7 :: S) h := Rg rfl
set_option maxRecDepth 100000 in
theorem e181_72 {L : Lo} {S : List Value} {h : Hp} {x0 x1 x2 x3 : Option Value} {v : Int32} : Run 181 72 (x0 :: x1 :: x2 :: x3 :: some (.int v) :: L) S h = Run 181 74 (x0 :: x1 :: x2 :: x3 :: some (.int v) :: L) (.int v :: S) h := Rg rfl
set_option maxRecDepth 100000 in
theorem e181_74 {L : Lo} {S : List Value} {h : Hp} {x0 x1 x2 : Option Value} {v : Int32} : Run 181 74 (x0 :: x1 :: x2 :: some (.int v) :: L) S h = Run 181 75 (x0 :: x1 :: x2 :: some (.int v) :: L) (.int v :: S) h := Rg rfl
set_option maxRecDepth 100000 in
theorem e181_75 {L : Lo} {S : List Value} {h : Hp} : Run 181 75 L S h = Run 181 76 L (.int 2 :: S) h := Rg rfl
set_option maxRecDepth 100000 in
theorem e181_76 {L : Lo} {S : List Value} {h : Hp} {x z : Int32} : Run 181 76 L (.int z :: .int x :: S) h = Run 181 77 L (.int (x + z) :: S) h := Rg rfl
set_option maxRecDepth 100000 in
theorem e181_77 {L : Lo} {S : List Value} {h : Hp} : Run 181 77 L S h = Run 181 78 L (.int 3 :: S) h := Rg rfl
set_option maxRecDepth 100000 in
theorem e181_78 {L : Lo} {S : List Value} {h : Hp} {x z : Int32} (hz : ¬ z = 0) : Run 181 78 L (.int z :: .int x :: S) h = Run 181 79 L (.int (x / z) :: S) h := Rg (if_neg hz)
set_option maxRecDepth 100000 in
theorem e181_79 {L : Lo} {S : List Value} {h : Hp} {x z : Int32} : Run 181 79 L (.int z :: .int x :: S) h = Run 181 80 L (.int (x - z) :: S) h := Rg rfl
set_option maxRecDepth 100000 in
theorem e181_80 {L : Lo} {h : Hp} {a3 : Int32} {a2 : Int32} {a1 : Int32} {a0 : Nat} (hO : isO h a0 9 = true) : Run 181 80 L [.int a3, .int a2, .int a1, .ref a0] h = (Run 126 0 [some (.ref a0), some (.int a1), some (.int a2), some (.int a3)] [] h).bind fun o => aft 181 80 83 L [] o := Rcv (c := 126) (As := [.int a1, .int a2, .int a3]) (S' := []) (pc' := 83) 9 rfl hO
set_option maxRecDepth 100000 in
theorem e181_83 {L : Lo} {S : List Value} {h : Hp} {v : Nat} : Run 181 83 (some (.ref v) :: L) S h = Run 181 84 (some (.ref v) :: L) (.ref v :: S) h := Rg rfl
set_option maxRecDepth 100000 in
theorem e181_84 {L : Lo} {S : List Value} {h : Hp} {x0 x1 : Option Value} {v : Int32} : Run 181 84 (x0 :: x1 :: some (.int v) :: L) S h = Run 181 85 (x0 :: x1 :: some (.int v) :: L) (.int v :: S) h := Rg rfl
set_option maxRecDepth 100000 in
theorem e181_85 {L : Lo} {S : List Value} {h : Hp} : Run 181 85 L S h = Run 181 87 L (.int 7 :: S) h := Rg rfl
set_option maxRecDepth 100000 in
theorem e181_87 {L : Lo} {h : Hp} {a2 : Int32} {a1 : Int32} {a0 : Nat} (hO : isO h a0 9 = true) : Run 181 87 L [.int a2, .int a1, .ref a0] h = (Run 125 0 [some (.ref a0), some (.int a1), some (.int a2)] [] h).bind fun o => aft 181 87 90 L [] o := Rcv (c := 125) (As := [.int a1, .int a2]) (S' := []) (pc' := 90) 9 rfl hO
set_option maxRecDepth 100000 in
theorem e181_90 {L : Lo} {S : List Value} {h : Hp} {x : Int32} : Run 181 90 L (.int x :: S) h = if x ≤ 0 then Run 181 95 L S h else Run 181 93 L S h := Rbr (c := cnd .le x 0 = true) (off := 5) rfl rfl cnd_le
set_option maxRecDepth 100000 in
theorem e181_93 {L : Lo} {S : List Value} {h : Hp} : Run 181 93 L S h = Run 181 94 L (.int 0 :: S) h := Rg rfl
set_option maxRecDepth 100000 in
theorem e181_94 {L : Lo} {h : Hp} {x : Int32} : Run 181 94 L [.int x] h = some (.inl (some (.int x)), h) := Rd (if_pos (c := narrow .int (.int x) = .int x) rfl)
set_option maxRecDepth 100000 in
theorem e181_95 {L : Lo} {S : List Value} {h : Hp} {x0 x1 x2 x3 x4 : Option Value} {v : Int32} : Run 181 95 (x0 :: x1 :: x2 :: x3 :: x4 :: some (.int v) :: L) S h = Run 181 97 (x0 :: x1 :: x2 :: x3 :: x4 :: some (.int v) :: L) (.int v :: S) h := Rg rfl
set_option maxRecDepth 100000 in
theorem e181_97 {L : Lo} {S : List Value} {h : Hp} : Run 181 97 L S h = Run 181 98 L (.int 3 :: S) h := Rg rfl
set_option maxRecDepth 100000 in
theorem e181_98 {L : Lo} {S : List Value} {h : Hp} {x z : Int32} : Run 181 98 L (.int z :: .int x :: S) h = Run 181 99 L (.int (x + z) :: S) h := Rg rfl
set_option maxRecDepth 100000 in
theorem e181_99 {L : Lo} {S : List Value} {h : Hp} : Run 181 99 L S h = Run 181 100 L (.int 4 :: S) h := Rg rfl
set_option maxRecDepth 100000 in
theorem e181_100 {L : Lo} {S : List Value} {h : Hp} {x z : Int32} (hz : ¬ z = 0) : Run 181 100 L (.int z :: .int x :: S) h = Run 181 101 L (.int (x / z) :: S) h := Rg (if_neg hz)
set_option maxRecDepth 100000 in
theorem e181_101 {L : Lo} {S : List Value} {h : Hp} {x0 x1 x2 x3 x4 : Option Value} {v : Int32} : Run 181 101 (x0 :: x1 :: x2 :: x3 :: x4 :: some (.int v) :: L) S h = Run 181 103 (x0 :: x1 :: x2 :: x3 :: x4 :: some (.int v) :: L) (.int v :: S) h := Rg rfl
set_option maxRecDepth 100000 in
theorem e181_103 {L : Lo} {S : List Value} {h : Hp} : Run 181 103 L S h = Run 181 104 L (.int 1 :: S) h := Rg rfl
set_option maxRecDepth 100000 in
theorem e181_104 {L : Lo} {S : List Value} {h : Hp} {x z : Int32} : Run 181 104 L (.int z :: .int x :: S) h = Run 181 105 L (.int (x - z) :: S) h := Rg rfl
set_option maxRecDepth 100000 in
theorem e181_105 {L : Lo} {h : Hp} {a1 : Int32} {a0 : Int32} : Run 181 105 L [.int a1, .int a0] h = (Run 120 0 [some (.int a0), some (.int a1)] [] h).bind fun o => aft 181 105 108 L [] o := Rc (c := 120) (As := [.int a0, .int a1]) (S' := []) (pc' := 108) rfl
set_option maxRecDepth 100000 in
theorem e181_108 {L : Lo} {S : List Value} {h : Hp} {x0 x1 x2 x3 x4 x5 : Option Value} {y : Option Value} {v : Int32} : Run 181 108 (x0 :: x1 :: x2 :: x3 :: x4 :: x5 :: y :: L) (.int v :: S) h = Run 181 110 (x0 :: x1 :: x2 :: x3 :: x4 :: ck x5 :: some (.int v) :: L) S h := Rg rfl
set_option maxRecDepth 100000 in
theorem e181_110 {L : Lo} {S : List Value} {h : Hp} {v : Nat} : Run 181 110 (some (.ref v) :: L) S h = Run 181 111 (some (.ref v) :: L) (.ref v :: S) h := Rg rfl
set_option maxRecDepth 100000 in
theorem e181_111 {L : Lo} {S : List Value} {h : Hp} {x0 : Option Value} {v : Int32} : Run 181 111 (x0 :: some (.int v) :: L) S h = Run 181 112 (x0 :: some (.int v) :: L) (.int v :: S) h := Rg rfl
set_option maxRecDepth 100000 in
theorem e181_112 {L : Lo} {S : List Value} {h : Hp} : Run 181 112 L S h = Run 181 114 L (.int 7 :: S) h := Rg rfl
set_option maxRecDepth 100000 in
theorem e181_114 {L : Lo} {S : List Value} {h : Hp} {x0 x1 x2 x3 x4 : Option Value} {v : Int32} : Run 181 114 (x0 :: x1 :: x2 :: x3 :: x4 :: some (.int v) :: L) S h = Run 181 116 (x0 :: x1 :: x2 :: x3 :: x4 :: some (.int v) :: L) (.int v :: S) h := Rg rfl
set_option maxRecDepth 100000 in
theorem e181_116 {L : Lo} {S : List Value} {h : Hp} {x0 x1 x2 x3 x4 x5 : Option Value} {v : Int32} : Run 181 116 (x0 :: x1 :: x2 :: x3 :: x4 :: x5 :: some (.int v) :: L) S h = Run 181 118 (x0 :: x1 :: x2 :: x3 :: x4 :: x5 :: some (.int v) :: L) (.int v :: S) h := Rg rfl
set_option maxRecDepth 100000 in
theorem e181_118 {L : Lo} {S : List Value} {h : Hp} {x z : Int32} : Run 181 118 L (.int z :: .int x :: S) h = Run 181 119 L (.int (x - z) :: S) h := Rg rfl
set_option maxRecDepth 100000 in
theorem e181_119 {L : Lo} {h : Hp} {a3 : Int32} {a2 : Int32} {a1 : Int32} {a0 : Nat} (hO : isO h a0 9 = true) : Run 181 119 L [.int a3, .int a2, .int a1, .ref a0] h = (Run 126 0 [some (.ref a0), some (.int a1), some (.int a2), some (.int a3)] [] h).bind fun o => aft 181 119 122 L [] o := Rcv (c := 126) (As := [.int a1, .int a2, .int a3]) (S' := []) (pc' := 122) 9 rfl hO
set_option maxRecDepth 100000 in
theorem e181_122 {L : Lo} {S : List Value} {h : Hp} {v : Nat} : Run 181 122 (some (.ref v) :: L) S h = Run 181 123 (some (.ref v) :: L) (.ref v :: S) h := Rg rfl
set_option maxRecDepth 100000 in
theorem e181_123 {L : Lo} {S : List Value} {h : Hp} {x0 x1 : Option Value} {v : Int32} : Run 181 123 (x0 :: x1 :: some (.int v) :: L) S h = Run 181 124 (x0 :: x1 :: some (.int v) :: L) (.int v :: S) h := Rg rfl
set_option maxRecDepth 100000 in
theorem e181_124 {L : Lo} {S : List Value} {h : Hp} : Run 181 124 L S h = Run 181 126 L (.int 7 :: S) h := Rg rfl
set_option maxRecDepth 100000 in
theorem e181_126 {L : Lo} {S : List Value} {h : Hp} {x0 x1 x2 x3 x4 x5 : Option Value} {v : Int32} : Run 181 126 (x0 :: x1 :: x2 :: x3 :: x4 :: x5 :: some (.int v) :: L) S h = Run 181 128 (x0 :: x1 :: x2 :: x3 :: x4 :: x5 :: some (.int v) :: L) (.int v :: S) h := Rg rfl
set_option maxRecDepth 100000 in
theorem e181_128 {L : Lo} {S : List Value} {h : Hp} {x : Int32} : Run 181 128 L (.int x :: S) h = if x = 0 then Run 181 131 L S h else Run 181 135 L S h := RbrN (c := cnd .ne x 0 = true) (off := 7) rfl rfl cnd_ne
set_option maxRecDepth 100000 in
theorem e181_131 {L : Lo} {S : List Value} {h : Hp} : Run 181 131 L S h = Run 181 132 L (.int 1 :: S) h := Rg rfl
set_option maxRecDepth 100000 in
theorem e181_132 {L : Lo} {S : List Value} {h : Hp} : Run 181 132 L S h = Run 181 137 L S h := Rg rfl
set_option maxRecDepth 100000 in
theorem e181_135 {L : Lo} {S : List Value} {h : Hp} {x0 x1 x2 x3 x4 x5 : Option Value} {v : Int32} : Run 181 135 (x0 :: x1 :: x2 :: x3 :: x4 :: x5 :: some (.int v) :: L) S h = Run 181 137 (x0 :: x1 :: x2 :: x3 :: x4 :: x5 :: some (.int v) :: L) (.int v :: S) h := Rg rfl
set_option maxRecDepth 100000 in
theorem e181_137 {L : Lo} {h : Hp} {a3 : Int32} {a2 : Int32} {a1 : Int32} {a0 : Nat} (hO : isO h a0 9 = true) : Run 181 137 L [.int a3, .int a2, .int a1, .ref a0] h = (Run 126 0 [some (.ref a0), some (.int a1), some (.int a2), some (.int a3)] [] h).bind fun o => aft 181 137 140 L [] o := Rcv (c := 126) (As := [.int a1, .int a2, .int a3]) (S' := []) (pc' := 140) 9 rfl hO
set_option maxRecDepth 100000 in
theorem e181_140 {L : Lo} {S : List Value} {h : Hp} {v : Nat} : Run 181 140 (some (.ref v) :: L) S h = Run 181 141 (some (.ref v) :: L) (.ref v :: S) h := Rg rfl
set_option maxRecDepth 100000 in
theorem e181_141 {L : Lo} {S : List Value} {h : Hp} {x0 x1 : Option Value} {v : Int32} : Run 181 141 (x0 :: x1 :: some (.int v) :: L) S h = Run 181 142 (x0 :: x1 :: some (.int v) :: L) (.int v :: S) h := Rg rfl
set_option maxRecDepth 100000 in
theorem e181_142 {L : Lo} {S : List Value} {h : Hp} : Run 181 142 L S h = Run 181 143 L (.int 0 :: S) h := Rg rfl
set_option maxRecDepth 100000 in
theorem e181_143 {L : Lo} {S : List Value} {h : Hp} {v : Nat} : Run 181 143 (some (.ref v) :: L) S h = Run 181 144 (some (.ref v) :: L) (.ref v :: S) h := Rg rfl
set_option maxRecDepth 100000 in
theorem e181_144 {L : Lo} {S : List Value} {h : Hp} {x0 : Option Value} {v : Int32} : Run 181 144 (x0 :: some (.int v) :: L) S h = Run 181 145 (x0 :: some (.int v) :: L) (.int v :: S) h := Rg rfl
set_option maxRecDepth 100000 in
theorem e181_145 {L : Lo} {S : List Value} {h : Hp} : Run 181 145 L S h = Run 181 146 L (.int 0 :: S) h := Rg rfl
set_option maxRecDepth 100000 in
theorem e181_146 {L : Lo} {h : Hp} {a5 : Int32} {a4 : Int32} {a3 : Nat} {a2 : Int32} {a1 : Int32} {a0 : Nat} (hO : isO h a3 9 = true) : Run 181 146 L [.int a5, .int a4, .ref a3, .int a2, .int a1, .ref a0] h = (Run 125 0 [some (.ref a3), some (.int a4), some (.int a5)] [] h).bind fun o => aft 181 146 149 L [.int a2, .int a1, .ref a0] o := Rcv (c := 125) (As := [.int a4, .int a5]) (S' := [.int a2, .int a1, .ref a0]) (pc' := 149) 9 rfl hO
set_option maxRecDepth 100000 in
theorem e181_149 {L : Lo} {h : Hp} {a3 : Int32} {a2 : Int32} {a1 : Int32} {a0 : Nat} (hO : isO h a0 9 = true) : Run 181 149 L [.int a3, .int a2, .int a1, .ref a0] h = (Run 126 0 [some (.ref a0), some (.int a1), some (.int a2), some (.int a3)] [] h).bind fun o => aft 181 149 152 L [] o := Rcv (c := 126) (As := [.int a1, .int a2, .int a3]) (S' := []) (pc' := 152) 9 rfl hO
set_option maxRecDepth 100000 in
theorem e181_152 {L : Lo} {S : List Value} {h : Hp} {v : Nat} : Run 181 152 (some (.ref v) :: L) S h = Run 181 153 (some (.ref v) :: L) (.ref v :: S) h := Rg rfl
set_option maxRecDepth 100000 in
theorem e181_153 {L : Lo} {S : List Value} {h : Hp} {x0 : Option Value} {v : Int32} : Run 181 153 (x0 :: some (.int v) :: L) S h = Run 181 154 (x0 :: some (.int v) :: L) (.int v :: S) h := Rg rfl
set_option maxRecDepth 100000 in
theorem e181_154 {L : Lo} {h : Hp} {a1 : Int32} {a0 : Nat} (hO : isO h a0 9 = true) : Run 181 154 L [.int a1, .ref a0] h = (Run 174 0 [some (.ref a0), some (.int a1)] [] h).bind fun o => aft 181 154 157 L [] o := Rcv (c := 174) (As := [.int a1]) (S' := []) (pc' := 157) 9 rfl hO
set_option maxRecDepth 100000 in
theorem e181_157 {L : Lo} {S : List Value} {h : Hp} : Run 181 157 L S h = Run 181 158 L (.int 1 :: S) h := Rg rfl
set_option maxRecDepth 100000 in
theorem e181_158 {L : Lo} {h : Hp} {x : Int32} : Run 181 158 L [.int x] h = some (.inl (some (.int x)), h) := Rd (if_pos (c := narrow .int (.int x) = .int x) rfl)
set_option maxRecDepth 100000 in
theorem e182_0 {L : Lo} {S : List Value} {h : Hp} {v : Nat} : Run 182 0 (some (.ref v) :: L) S h = Run 182 1 (some (.ref v) :: L) (.ref v :: S) h := Rg rfl
set_option maxRecDepth 100000 in
theorem e182_1 {L : Lo} {S : List Value} {h : Hp} {v : Nat} : Run 182 1 (some (.ref v) :: L) S h = Run 182 2 (some (.ref v) :: L) (.ref v :: S) h := Rg rfl
set_option maxRecDepth 100000 in
theorem e182_2 {L : Lo} {S : List Value} {h : Hp} {x0 : Option Value} {v : Int32} : Run 182 2 (x0 :: some (.int v) :: L) S h = Run 182 3 (x0 :: some (.int v) :: L) (.int v :: S) h := Rg rfl
set_option maxRecDepth 100000 in
theorem e182_3 {L : Lo} {h : Hp} {a2 : Int32} {a1 : Nat} {a0 : Nat} (hO : isO h a1 9 = true) : Run 182 3 L [.int a2, .ref a1, .ref a0] h = (Run 124 0 [some (.ref a1), some (.int a2)] [] h).bind fun o => aft 182 3 6 L [.ref a0] o := Rcv (c := 124) (As := [.int a2]) (S' := [.ref a0]) (pc' := 6) 9 rfl hO
set_option maxRecDepth 100000 in
theorem e182_6 {L : Lo} {S : List Value} {h : Hp} {x : Int32} : Run 182 6 L (.int x :: S) h = if x = 0 then Run 182 9 L S h else Run 182 13 L S h := RbrN (c := cnd .ne x 0 = true) (off := 7) rfl rfl cnd_ne
set_option maxRecDepth 100000 in
theorem e182_9 {L : Lo} {S : List Value} {h : Hp} : Run 182 9 L S h = Run 182 10 L (.int 1 :: S) h := Rg rfl
set_option maxRecDepth 100000 in
theorem e182_10 {L : Lo} {S : List Value} {h : Hp} : Run 182 10 L S h = Run 182 40 L S h := Rg rfl
set_option maxRecDepth 100000 in
theorem e182_13 {L : Lo} {S : List Value} {h : Hp} {v : Nat} : Run 182 13 (some (.ref v) :: L) S h = Run 182 14 (some (.ref v) :: L) (.ref v :: S) h := Rg rfl
set_option maxRecDepth 100000 in
theorem e182_14 {L : Lo} {S : List Value} {h : Hp} {x0 : Option Value} {v : Int32} : Run 182 14 (x0 :: some (.int v) :: L) S h = Run 182 15 (x0 :: some (.int v) :: L) (.int v :: S) h := Rg rfl
set_option maxRecDepth 100000 in
theorem e182_15 {L : Lo} {S : List Value} {h : Hp} : Run 182 15 L S h = Run 182 17 L (.int 11 :: S) h := Rg rfl
set_option maxRecDepth 100000 in
theorem e182_17 {L : Lo} {h : Hp} {a3 : Int32} {a2 : Int32} {a1 : Nat} {a0 : Nat} (hO : isO h a1 9 = true) : Run 182 17 L [.int a3, .int a2, .ref a1, .ref a0] h = (Run 125 0 [some (.ref a1), some (.int a2), some (.int a3)] [] h).bind fun o => aft 182 17 20 L [.ref a0] o := Rcv (c := 125) (As := [.int a2, .int a3]) (S' := [.ref a0]) (pc' := 20) 9 rfl hO
set_option maxRecDepth 100000 in
theorem e182_20 {L : Lo} {S : List Value} {h : Hp} : Run 182 20 L S h = Run 182 21 L (.int (-1) :: S) h := Rg rfl
set_option maxRecDepth 100000 in
theorem e182_21 {L : Lo} {S : List Value} {h : Hp} {x z : Int32} : Run 182 21 L (.int z :: .int x :: S) h = if x = z then Run 182 35 L S h else Run 182 24 L S h := Rbr (c := cnd .eq x z = true) (off := 14) rfl rfl cnd_eq
set_option maxRecDepth 100000 in
theorem e182_24 {L : Lo} {S : List Value} {h : Hp} {v : Nat} : Run 182 24 (some (.ref v) :: L) S h = Run 182 25 (some (.ref v) :: L) (.ref v :: S) h := Rg rfl
set_option maxRecDepth 100000 in
theorem e182_25 {L : Lo} {S : List Value} {h : Hp} {x0 : Option Value} {v : Int32} : Run 182 25 (x0 :: some (.int v) :: L) S h = Run 182 26 (x0 :: some (.int v) :: L) (.int v :: S) h := Rg rfl
set_option maxRecDepth 100000 in
theorem e182_26 {L : Lo} {S : List Value} {h : Hp} : Run 182 26 L S h = Run 182 28 L (.int 14 :: S) h := Rg rfl
set_option maxRecDepth 100000 in
theorem e182_28 {L : Lo} {h : Hp} {a3 : Int32} {a2 : Int32} {a1 : Nat} {a0 : Nat} (hO : isO h a1 9 = true) : Run 182 28 L [.int a3, .int a2, .ref a1, .ref a0] h = (Run 125 0 [some (.ref a1), some (.int a2), some (.int a3)] [] h).bind fun o => aft 182 28 31 L [.ref a0] o := Rcv (c := 125) (As := [.int a2, .int a3]) (S' := [.ref a0]) (pc' := 31) 9 rfl hO
set_option maxRecDepth 100000 in
theorem e182_31 {L : Lo} {S : List Value} {h : Hp} : Run 182 31 L S h = Run 182 32 L (.int 1 :: S) h := Rg rfl
set_option maxRecDepth 100000 in
theorem e182_32 {L : Lo} {S : List Value} {h : Hp} {x z : Int32} : Run 182 32 L (.int z :: .int x :: S) h = if x = z then Run 182 35 L S h else Run 182 39 L S h := RbrN (c := cnd .ne x z = true) (off := 7) rfl rfl cnd_ne
set_option maxRecDepth 100000 in
theorem e182_35 {L : Lo} {S : List Value} {h : Hp} : Run 182 35 L S h = Run 182 36 L (.int 2 :: S) h := Rg rfl
set_option maxRecDepth 100000 in
theorem e182_36 {L : Lo} {S : List Value} {h : Hp} : Run 182 36 L S h = Run 182 40 L S h := Rg rfl
set_option maxRecDepth 100000 in
theorem e182_39 {L : Lo} {S : List Value} {h : Hp} : Run 182 39 L S h = Run 182 40 L (.int 0 :: S) h := Rg rfl
set_option maxRecDepth 100000 in
theorem e182_40 {L : Lo} {S : List Value} {h : Hp} {b : Nat} {v : Value} : Run 182 40 L (v :: .ref b :: S) h = (pf h 9 5 b v).bind fun h1 => Run 182 43 L S h1 := Rb rfl fun _ => rfl
set_option maxRecDepth 100000 in
theorem e182_43 {L : Lo} {S : List Value} {h : Hp} {v : Nat} : Run 182 43 (some (.ref v) :: L) S h = Run 182 44 (some (.ref v) :: L) (.ref v :: S) h := Rg rfl
set_option maxRecDepth 100000 in
theorem e182_44 {L : Lo} {S : List Value} {h : Hp} {b : Nat} : Run 182 44 L (.ref b :: S) h = (gf h 9 5 b).bind fun v => Run 182 47 L (v :: S) h := Rb rfl fun _ => rfl
set_option maxRecDepth 100000 in
theorem e182_47 {L : Lo} {S : List Value} {h : Hp} {x : Int32} : Run 182 47 L (.int x :: S) h = if x = 0 then Run 182 52 L S h else Run 182 50 L S h := Rbr (c := cnd .eq x 0 = true) (off := 5) rfl rfl cnd_eq
set_option maxRecDepth 100000 in
theorem e182_50 {L : Lo} {S : List Value} {h : Hp} : Run 182 50 L S h = Run 182 51 L (.int 0 :: S) h := Rg rfl
set_option maxRecDepth 100000 in
theorem e182_51 {L : Lo} {h : Hp} {x : Int32} : Run 182 51 L [.int x] h = some (.inl (some (.int x)), h) := Rd (if_pos (c := narrow .int (.int x) = .int x) rfl)
set_option maxRecDepth 100000 in
theorem e182_52 {L : Lo} {S : List Value} {h : Hp} {v : Nat} : Run 182 52 (some (.ref v) :: L) S h = Run 182 53 (some (.ref v) :: L) (.ref v :: S) h := Rg rfl
set_option maxRecDepth 100000 in
theorem e182_53 {L : Lo} {h : Hp} {a0 : Nat} (hO : isO h a0 9 = true) : Run 182 53 L [.ref a0] h = (Run 121 0 [some (.ref a0), none] [] h).bind fun o => aft 182 53 56 L [] o := Rcv (c := 121) (As := []) (S' := []) (pc' := 56) 9 rfl hO
set_option maxRecDepth 100000 in
theorem e182_56 {L : Lo} {S : List Value} {h : Hp} {v : Nat} : Run 182 56 (some (.ref v) :: L) S h = Run 182 57 (some (.ref v) :: L) (.ref v :: S) h := Rg rfl
set_option maxRecDepth 100000 in
theorem e182_57 {L : Lo} {S : List Value} {h : Hp} {x0 : Option Value} {v : Int32} : Run 182 57 (x0 :: some (.int v) :: L) S h = Run 182 58 (x0 :: some (.int v) :: L) (.int v :: S) h := Rg rfl
set_option maxRecDepth 100000 in
theorem e182_58 {L : Lo} {h : Hp} {a1 : Int32} {a0 : Nat} (hO : isO h a0 9 = true) : Run 182 58 L [.int a1, .ref a0] h = (Run 181 0 [some (.ref a0), some (.int a1), none, none, none, none, none] [] h).bind fun o => aft 182 58 61 L [] o := Rcv (c := 181) (As := [.int a1]) (S' := []) (pc' := 61) 9 rfl hO
set_option maxRecDepth 100000 in
theorem e182_61 {L : Lo} {h : Hp} {x : Int32} : Run 182 61 L [.int x] h = some (.inl (some (.int x)), h) := Rd (if_pos (c := narrow .int (.int x) = .int x) rfl)
set_option maxRecDepth 100000 in
theorem e183_0 {L : Lo} {S : List Value} {h : Hp} : Run 183 0 L S h = Run 183 2 L (.int 12 :: S) h := Rg rfl
set_option maxRecDepth 100000 in
theorem e183_2 {L : Lo} {S : List Value} {h : Hp} {x0 : Option Value} {v : Int32} : Run 183 2 (x0 :: some (.int v) :: L) S h = Run 183 3 (x0 :: some (.int v) :: L) (.int v :: S) h := Rg rfl
set_option maxRecDepth 100000 in
theorem e183_3 {L : Lo} {S : List Value} {h : Hp} {x z : Int32} : Run 183 3 L (.int z :: .int x :: S) h = Run 183 4 L (.int (x * z) :: S) h := Rg rfl
set_option maxRecDepth 100000 in
theorem e183_4 {L : Lo} {S : List Value} {h : Hp} : Run 183 4 L S h = Run 183 5 L (.int 2 :: S) h := Rg rfl
set_option maxRecDepth 100000 in
theorem e183_5 {L : Lo} {S : List Value} {h : Hp} {x0 x1 : Option Value} {v : Int32} : Run 183 5 (x0 :: x1 :: some (.int v) :: L) S h = Run 183 6 (x0 :: x1 :: some (.int v) :: L) (.int v :: S) h := Rg rfl
set_option maxRecDepth 100000 in
theorem e183_6 {L : Lo} {S : List Value} {h : Hp} {x z : Int32} : Run 183 6 L (.int z :: .int x :: S) h = Run 183 7 L (.int (x * z) :: S) h := Rg rfl
set_option maxRecDepth 100000 in
theorem e183_7 {L : Lo} {S : List Value} {h : Hp} {x z : Int32} : Run 183 7 L (.int z :: .int x :: S) h = Run 183 8 L (.int (x + z) :: S) h := Rg rfl
set_option maxRecDepth 100000 in
theorem e183_8 {L : Lo} {S : List Value} {h : Hp} {x0 x1 x2 : Option Value} {v : Int32} : Run 183 8 (x0 :: x1 :: x2 :: some (.int v) :: L) S h = Run 183 9 (x0 :: x1 :: x2 :: some (.int v) :: L) (.int v :: S) h := Rg rfl
set_option maxRecDepth 100000 in
theorem e183_9 {L : Lo} {S : List Value} {h : Hp} {x z : Int32} : Run 183 9 L (.int z :: .int x :: S) h = Run 183 10 L (.int (x + z) :: S) h := Rg rfl
set_option maxRecDepth 100000 in
theorem e183_10 {L : Lo} {h : Hp} {x : Int32} : Run 183 10 L [.int x] h = some (.inl (some (.int x)), h) := Rd (if_pos (c := narrow .int (.int x) = .int x) rfl)
set_option maxRecDepth 100000 in
theorem e184_0 {L : Lo} {S : List Value} {h : Hp} {x0 x1 : Option Value} {v : Int32} : Run 184 0 (x0 :: x1 :: some (.int v) :: L) S h = Run 184 1 (x0 :: x1 :: some (.int v) :: L) (.int v :: S) h := Rg rfl
set_option maxRecDepth 100000 in
theorem e184_1 {L : Lo} {S : List Value} {h : Hp} : Run 184 1 L S h = Run 184 2 L (.int (-1) :: S) h := Rg rfl
set_option maxRecDepth 100000 in
theorem e184_2 {L : Lo} {S : List Value} {h : Hp} {x z : Int32} : Run 184 2 L (.int z :: .int x :: S) h = if x = z then Run 184 27 L S h else Run 184 5 L S h := Rbr (c := cnd .eq x z = true) (off := 25) rfl rfl cnd_eq
set_option maxRecDepth 100000 in
theorem e184_5 {L : Lo} {S : List Value} {h : Hp} {x0 x1 : Option Value} {v : Int32} : Run 184 5 (x0 :: x1 :: some (.int v) :: L) S h = Run 184 6 (x0 :: x1 :: some (.int v) :: L) (.int v :: S) h := Rg rfl
set_option maxRecDepth 100000 in
theorem e184_6 {L : Lo} {S : List Value} {h : Hp} {v : Nat} : Run 184 6 (some (.ref v) :: L) S h = Run 184 7 (some (.ref v) :: L) (.ref v :: S) h := Rg rfl
set_option maxRecDepth 100000 in
theorem e184_7 {L : Lo} {S : List Value} {h : Hp} {x0 : Option Value} {v : Int32} : Run 184 7 (x0 :: some (.int v) :: L) S h = Run 184 8 (x0 :: some (.int v) :: L) (.int v :: S) h := Rg rfl
set_option maxRecDepth 100000 in
theorem e184_8 {L : Lo} {S : List Value} {h : Hp} : Run 184 8 L S h = Run 184 9 L (.int 1 :: S) h := Rg rfl
set_option maxRecDepth 100000 in
theorem e184_9 {L : Lo} {h : Hp} {a3 : Int32} {a2 : Int32} {a1 : Nat} {a0 : Int32} (hO : isO h a1 9 = true) : Run 184 9 L [.int a3, .int a2, .ref a1, .int a0] h = (Run 125 0 [some (.ref a1), some (.int a2), some (.int a3)] [] h).bind fun o => aft 184 9 12 L [.int a0] o := Rcv (c := 125) (As := [.int a2, .int a3]) (S' := [.int a0]) (pc' := 12) 9 rfl hO
set_option maxRecDepth 100000 in
theorem e184_12 {L : Lo} {S : List Value} {h : Hp} {x z : Int32} : Run 184 12 L (.int z :: .int x :: S) h = if x = z then Run 184 23 L S h else Run 184 15 L S h := Rbr (c := cnd .eq x z = true) (off := 11) rfl rfl cnd_eq
set_option maxRecDepth 100000 in
theorem e184_15 {L : Lo} {S : List Value} {h : Hp} {v : Nat} : Run 184 15 (some (.ref v) :: L) S h = Run 184 16 (some (.ref v) :: L) (.ref v :: S) h := Rg rfl
set_option maxRecDepth 100000 in
theorem e184_16 {L : Lo} {S : List Value} {h : Hp} {x0 x1 : Option Value} {v : Int32} : Run 184 16 (x0 :: x1 :: some (.int v) :: L) S h = Run 184 17 (x0 :: x1 :: some (.int v) :: L) (.int v :: S) h := Rg rfl
set_option maxRecDepth 100000 in
theorem e184_17 {L : Lo} {h : Hp} {a1 : Int32} {a0 : Nat} (hO : isO h a0 9 = true) : Run 184 17 L [.int a1, .ref a0] h = (Run 133 0 [some (.ref a0), some (.int a1)] [] h).bind fun o => aft 184 17 20 L [] o := Rcv (c := 133) (As := [.int a1]) (S' := []) (pc' := 20) 9 rfl hO
set_option maxRecDepth 100000 in
theorem e184_20 {L : Lo} {S : List Value} {h : Hp} {x : Int32} : Run 184 20 L (.int x :: S) h = if x = 0 then Run 184 27 L S h else Run 184 23 L S h := Rbr (c := cnd .eq x 0 = true) (off := 7) rfl rfl cnd_eq
set_option maxRecDepth 100000 in
theorem e184_23 {L : Lo} {S : List Value} {h : Hp} : Run 184 23 L S h = Run 184 24 L (.int 1 :: S) h := Rg rfl
set_option maxRecDepth 100000 in
theorem e184_24 {L : Lo} {S : List Value} {h : Hp} : Run 184 24 L S h = Run 184 28 L S h := Rg rfl
set_option maxRecDepth 100000 in
theorem e184_27 {L : Lo} {S : List Value} {h : Hp} : Run 184 27 L S h = Run 184 28 L (.int 0 :: S) h := Rg rfl
set_option maxRecDepth 100000 in
theorem e184_28 {L : Lo} {h : Hp} {x : Int32} (hx : narrow .boolean (.int x) = .int x) : Run 184 28 L [.int x] h = some (.inl (some (.int x)), h) := Rd (if_pos hx)
set_option maxRecDepth 100000 in
theorem e185_0 {L : Lo} {S : List Value} {h : Hp} {v : Nat} : Run 185 0 (some (.ref v) :: L) S h = Run 185 1 (some (.ref v) :: L) (.ref v :: S) h := Rg rfl
set_option maxRecDepth 100000 in
theorem e185_1 {L : Lo} {S : List Value} {h : Hp} {b : Nat} : Run 185 1 L (.ref b :: S) h = (gf h 9 6 b).bind fun v => Run 185 4 L (v :: S) h := Rb rfl fun _ => rfl
set_option maxRecDepth 100000 in
theorem e185_4 {L : Lo} {S : List Value} {h : Hp} {x0 : Option Value} {v : Int32} : Run 185 4 (x0 :: some (.int v) :: L) S h = Run 185 5 (x0 :: some (.int v) :: L) (.int v :: S) h := Rg rfl
set_option maxRecDepth 100000 in
theorem e185_5 {L : Lo} {S : List Value} {h : Hp} {x0 x1 : Option Value} {v : Int32} : Run 185 5 (x0 :: x1 :: some (.int v) :: L) S h = Run 185 6 (x0 :: x1 :: some (.int v) :: L) (.int v :: S) h := Rg rfl
set_option maxRecDepth 100000 in
theorem e185_6 {L : Lo} {S : List Value} {h : Hp} {v : Nat} : Run 185 6 (some (.ref v) :: L) S h = Run 185 7 (some (.ref v) :: L) (.ref v :: S) h := Rg rfl
set_option maxRecDepth 100000 in
theorem e185_7 {L : Lo} {S : List Value} {h : Hp} {b : Nat} : Run 185 7 L (.ref b :: S) h = (gf h 9 6 b).bind fun v => Run 185 10 L (v :: S) h := Rb rfl fun _ => rfl
set_option maxRecDepth 100000 in
theorem e185_10 {L : Lo} {S : List Value} {h : Hp} {x0 : Option Value} {v : Int32} : Run 185 10 (x0 :: some (.int v) :: L) S h = Run 185 11 (x0 :: some (.int v) :: L) (.int v :: S) h := Rg rfl
set_option maxRecDepth 100000 in
theorem e185_11 {L : Lo} {S : List Value} {h : Hp} {i : Int32} {b : Nat} : Run 185 11 L (.int i :: .ref b :: S) h = (gaI h b i).bind fun v => Run 185 12 L (.int v :: S) h := Rb rfl fun _ => rfl
set_option maxRecDepth 100000 in
theorem e185_12 {L : Lo} {S : List Value} {h : Hp} {x z : Int32} : Run 185 12 L (.int z :: .int x :: S) h = if x ≤ z then Run 185 19 L S h else Run 185 15 L S h := Rbr (c := cnd .le x z = true) (off := 7) rfl rfl cnd_le
set_option maxRecDepth 100000 in
theorem e185_15 {L : Lo} {S : List Value} {h : Hp} {x0 x1 : Option Value} {v : Int32} : Run 185 15 (x0 :: x1 :: some (.int v) :: L) S h = Run 185 16 (x0 :: x1 :: some (.int v) :: L) (.int v :: S) h := Rg rfl
set_option maxRecDepth 100000 in
theorem e185_16 {L : Lo} {S : List Value} {h : Hp} : Run 185 16 L S h = Run 185 25 L S h := Rg rfl
set_option maxRecDepth 100000 in
theorem e185_19 {L : Lo} {S : List Value} {h : Hp} {v : Nat} : Run 185 19 (some (.ref v) :: L) S h = Run 185 20 (some (.ref v) :: L) (.ref v :: S) h := Rg rfl
set_option maxRecDepth 100000 in
theorem e185_20 {L : Lo} {S : List Value} {h : Hp} {b : Nat} : Run 185 20 L (.ref b :: S) h = (gf h 9 6 b).bind fun v => Run 185 23 L (v :: S) h := Rb rfl fun _ => rfl
set_option maxRecDepth 100000 in
theorem e185_23 {L : Lo} {S : List Value} {h : Hp} {x0 : Option Value} {v : Int32} : Run 185 23 (x0 :: some (.int v) :: L) S h = Run 185 24 (x0 :: some (.int v) :: L) (.int v :: S) h := Rg rfl
set_option maxRecDepth 100000 in
theorem e185_24 {L : Lo} {S : List Value} {h : Hp} {i : Int32} {b : Nat} : Run 185 24 L (.int i :: .ref b :: S) h = (gaI h b i).bind fun v => Run 185 25 L (.int v :: S) h := Rb rfl fun _ => rfl
set_option maxRecDepth 100000 in
theorem e185_25 {L : Lo} {S : List Value} {h : Hp} {v : Int32} {i : Int32} {b : Nat} : Run 185 25 L (.int v :: .int i :: .ref b :: S) h = (paI h b i v).bind fun h1 => Run 185 26 L S h1 := Rb rfl fun _ => rfl
set_option maxRecDepth 100000 in
theorem e185_26 {L : Lo} {h : Hp} : Run 185 26 L [] h = some (.inl none, h) := Rd rfl
set_option maxRecDepth 100000 in
theorem e186_0 {L : Lo} {S : List Value} {h : Hp} {x0 x1 : Option Value} {v : Int32} : Run 186 0 (x0 :: x1 :: some (.int v) :: L) S h = Run 186 1 (x0 :: x1 :: some (.int v) :: L) (.int v :: S) h := Rg rfl
set_option maxRecDepth 100000 in
theorem e186_1 {L : Lo} {S : List Value} {h : Hp} : Run 186 1 L S h = Run 186 3 L (.int 12 :: S) h := Rg rfl
set_option maxRecDepth 100000 in
theorem e186_3 {L : Lo} {S : List Value} {h : Hp} {x z : Int32} (hz : ¬ z = 0) : Run 186 3 L (.int z :: .int x :: S) h = Run 186 4 L (.int (x / z) :: S) h := Rg (if_neg hz)
set_option maxRecDepth 100000 in
theorem e186_4 {L : Lo} {S : List Value} {h : Hp} {x0 x1 x2 x3 : Option Value} {y : Option Value} {v : Int32} : Run 186 4 (x0 :: x1 :: x2 :: x3 :: y :: L) (.int v :: S) h = Run 186 6 (x0 :: x1 :: x2 :: ck x3 :: some (.int v) :: L) S h := Rg rfl
set_option maxRecDepth 100000 in
theorem e186_6 {L : Lo} {S : List Value} {h : Hp} {x0 x1 : Option Value} {v : Int32} : Run 186 6 (x0 :: x1 :: some (.int v) :: L) S h = Run 186 7 (x0 :: x1 :: some (.int v) :: L) (.int v :: S) h := Rg rfl
set_option maxRecDepth 100000 in
theorem e186_7 {L : Lo} {S : List Value} {h : Hp} : Run 186 7 L S h = Run 186 8 L (.int 2 :: S) h := Rg rfl
set_option maxRecDepth 100000 in
theorem e186_8 {L : Lo} {S : List Value} {h : Hp} {x z : Int32} (hz : ¬ z = 0) : Run 186 8 L (.int z :: .int x :: S) h = Run 186 9 L (.int (x / z) :: S) h := Rg (if_neg hz)
set_option maxRecDepth 100000 in
theorem e186_9 {L : Lo} {S : List Value} {h : Hp} : Run 186 9 L S h = Run 186 11 L (.int 6 :: S) h := Rg rfl
set_option maxRecDepth 100000 in
theorem e186_11 {L : Lo} {S : List Value} {h : Hp} {x z : Int32} (hz : ¬ z = 0) : Run 186 11 L (.int z :: .int x :: S) h = Run 186 12 L (.int (x - x / z * z) :: S) h := Rg (if_neg hz)
set_option maxRecDepth 100000 in
theorem e186_12 {L : Lo} {S : List Value} {h : Hp} {x0 x1 x2 x3 x4 : Option Value} {y : Option Value} {v : Int32} : Run 186 12 (x0 :: x1 :: x2 :: x3 :: x4 :: y :: L) (.int v :: S) h = Run 186 14 (x0 :: x1 :: x2 :: x3 :: ck x4 :: some (.int v) :: L) S h := Rg rfl
set_option maxRecDepth 100000 in
theorem e186_14 {L : Lo} {S : List Value} {h : Hp} {v : Nat} : Run 186 14 (some (.ref v) :: L) S h = Run 186 15 (some (.ref v) :: L) (.ref v :: S) h := Rg rfl
set_option maxRecDepth 100000 in
theorem e186_15 {L : Lo} {S : List Value} {h : Hp} {x0 x1 x2 x3 : Option Value} {v : Int32} : Run 186 15 (x0 :: x1 :: x2 :: x3 :: some (.int v) :: L) S h = Run 186 17 (x0 :: x1 :: x2 :: x3 :: some (.int v) :: L) (.int v :: S) h := Rg rfl
set_option maxRecDepth 100000 in
theorem e186_17 {L : Lo} {S : List Value} {h : Hp} {x0 x1 x2 x3 x4 : Option Value} {v : Int32} : Run 186 17 (x0 :: x1 :: x2 :: x3 :: x4 :: some (.int v) :: L) S h = Run 186 19 (x0 :: x1 :: x2 :: x3 :: x4 :: some (.int v) :: L) (.int v :: S) h := Rg rfl
set_option maxRecDepth 100000 in
theorem e186_19 {L : Lo} {h : Hp} {a2 : Int32} {a1 : Int32} {a0 : Nat} (hO : isO h a0 9 = true) : Run 186 19 L [.int a2, .int a1, .ref a0] h = (Run 130 0 [some (.ref a0), some (.int a1), some (.int a2), none, none] [] h).bind fun o => aft 186 19 22 L [] o := Rcv (c := 130) (As := [.int a1, .int a2]) (S' := []) (pc' := 22) 9 rfl hO
set_option maxRecDepth 100000 in
theorem e186_22 {L : Lo} {S : List Value} {h : Hp} {x0 x1 x2 x3 x4 x5 : Option Value} {y : Option Value} {v : Int32} : Run 186 22 (x0 :: x1 :: x2 :: x3 :: x4 :: x5 :: y :: L) (.int v :: S) h = Run 186 24 (x0 :: x1 :: x2 :: x3 :: x4 :: ck x5 :: some (.int v) :: L) S h := Rg rfl
set_option maxRecDepth 100000 in
theorem e186_24 {L : Lo} {S : List Value} {h : Hp} {x0 x1 x2 x3 x4 : Option Value} {v : Int32} : Run 186 24 (x0 :: x1 :: x2 :: x3 :: x4 :: some (.int v) :: L) S h = Run 186 26 (x0 :: x1 :: x2 :: x3 :: x4 :: some (.int v) :: L) (.int v :: S) h := Rg rfl
set_option maxRecDepth 100000 in
theorem e186_26 {L : Lo} {S : List Value} {h : Hp} {v : Nat} : Run 186 26 (some (.ref v) :: L) S h = Run 186 27 (some (.ref v) :: L) (.ref v :: S) h := Rg rfl
set_option maxRecDepth 100000 in
theorem e186_27 {L : Lo} {S : List Value} {h : Hp} {b : Nat} : Run 186 27 L (.ref b :: S) h = (gf h 9 0 b).bind fun v => Run 186 30 L (v :: S) h := Rb rfl fun _ => rfl
set_option maxRecDepth 100000 in
theorem e186_30 {L : Lo} {S : List Value} {h : Hp} : Run 186 30 L S h = Run 186 31 L (.int 2 :: S) h := Rg rfl
set_option maxRecDepth 100000 in
theorem e186_31 {L : Lo} {S : List Value} {h : Hp} {i : Int32} {b : Nat} : Run 186 31 L (.int i :: .ref b :: S) h = (gaI h b i).bind fun v => Run 186 32 L (.int v :: S) h := Rb rfl fun _ => rfl
set_option maxRecDepth 100000 in
theorem e186_32 {L : Lo} {h : Hp} {a1 : Int32} {a0 : Int32} : Run 186 32 L [.int a1, .int a0] h = (Run 143 0 [some (.int a0), some (.int a1), none] [] h).bind fun o => aft 186 32 35 L [] o := Rc (c := 143) (As := [.int a0, .int a1]) (S' := []) (pc' := 35) rfl
set_option maxRecDepth 100000 in
theorem e186_35 {L : Lo} {S : List Value} {h : Hp} : Run 186 35 L S h = Run 186 36 L (.int 3 :: S) h := Rg rfl
set_option maxRecDepth 100000 in
theorem e186_36 {L : Lo} {S : List Value} {h : Hp} {x z : Int32} : Run 186 36 L (.int z :: .int x :: S) h = if z ≤ x then Run 186 65 L S h else Run 186 39 L S h := Rbr (c := cnd .ge x z = true) (off := 29) rfl rfl cnd_ge
set_option maxRecDepth 100000 in
theorem e186_39 {L : Lo} {S : List Value} {h : Hp} {v : Nat} : Run 186 39 (some (.ref v) :: L) S h = Run 186 40 (some (.ref v) :: L) (.ref v :: S) h := Rg rfl
set_option maxRecDepth 100000 in
theorem e186_40 {L : Lo} {S : List Value} {h : Hp} {x0 : Option Value} {v : Int32} : Run 186 40 (x0 :: some (.int v) :: L) S h = Run 186 41 (x0 :: some (.int v) :: L) (.int v :: S) h := Rg rfl
set_option maxRecDepth 100000 in
theorem e186_41 {L : Lo} {S : List Value} {h : Hp} {x0 x1 x2 x3 x4 x5 : Option Value} {v : Int32} : Run 186 41 (x0 :: x1 :: x2 :: x3 :: x4 :: x5 :: some (.int v) :: L) S h = Run 186 43 (x0 :: x1 :: x2 :: x3 :: x4 :: x5 :: some (.int v) :: L) (.int v :: S) h := Rg rfl
set_option maxRecDepth 100000 in
theorem e186_43 {L : Lo} {h : Hp} {a2 : Int32} {a1 : Int32} {a0 : Nat} (hO : isO h a0 9 = true) : Run 186 43 L [.int a2, .int a1, .ref a0] h = (Run 184 0 [some (.ref a0), some (.int a1), some (.int a2)] [] h).bind fun o => aft 186 43 46 L [] o := Rcv (c := 184) (As := [.int a1, .int a2]) (S' := []) (pc' := 46) 9 rfl hO
set_option maxRecDepth 100000 in
theorem e186_46 {L : Lo} {S : List Value} {h : Hp} {x : Int32} : Run 186 46 L (.int x :: S) h = if x = 0 then Run 186 65 L S h else Run 186 49 L S h := Rbr (c := cnd .eq x 0 = true) (off := 19) rfl rfl cnd_eq
set_option maxRecDepth 100000 in
theorem e186_49 {L : Lo} {S : List Value} {h : Hp} {v : Nat} : Run 186 49 (some (.ref v) :: L) S h = Run 186 50 (some (.ref v) :: L) (.ref v :: S) h := Rg rfl
set_option maxRecDepth 100000 in
theorem e186_50 {L : Lo} {S : List Value} {h : Hp} {v : Nat} : Run 186 50 (some (.ref v) :: L) S h = Run 186 51 (some (.ref v) :: L) (.ref v :: S) h := Rg rfl
set_option maxRecDepth 100000 in
theorem e186_51 {L : Lo} {S : List Value} {h : Hp} {x0 x1 x2 x3 x4 x5 : Option Value} {v : Int32} : Run 186 51 (x0 :: x1 :: x2 :: x3 :: x4 :: x5 :: some (.int v) :: L) S h = Run 186 53 (x0 :: x1 :: x2 :: x3 :: x4 :: x5 :: some (.int v) :: L) (.int v :: S) h := Rg rfl
set_option maxRecDepth 100000 in
theorem e186_53 {L : Lo} {S : List Value} {h : Hp} {x0 x1 x2 x3 x4 : Option Value} {v : Int32} : Run 186 53 (x0 :: x1 :: x2 :: x3 :: x4 :: some (.int v) :: L) S h = Run 186 55 (x0 :: x1 :: x2 :: x3 :: x4 :: some (.int v) :: L) (.int v :: S) h := Rg rfl
set_option maxRecDepth 100000 in
theorem e186_55 {L : Lo} {S : List Value} {h : Hp} : Run 186 55 L S h = Run 186 56 L (.int 1 :: S) h := Rg rfl
set_option maxRecDepth 100000 in
theorem e186_56 {L : Lo} {h : Hp} {a4 : Int32} {a3 : Int32} {a2 : Int32} {a1 : Nat} {a0 : Nat} (hO : isO h a1 9 = true) : Run 186 56 L [.int a4, .int a3, .int a2, .ref a1, .ref a0] h = (Run 183 0 [some (.ref a1), some (.int a2), some (.int a3), some (.int a4)] [] h).bind fun o => aft 186 56 59 L [.ref a0] o := Rcv (c := 183) (As := [.int a2, .int a3, .int a4]) (S' := [.ref a0]) (pc' := 59) 9 rfl hO
set_option maxRecDepth 100000 in
theorem e186_59 {L : Lo} {S : List Value} {h : Hp} {x0 x1 x2 : Option Value} {v : Int32} : Run 186 59 (x0 :: x1 :: x2 :: some (.int v) :: L) S h = Run 186 60 (x0 :: x1 :: x2 :: some (.int v) :: L) (.int v :: S) h := Rg rfl
set_option maxRecDepth 100000 in
theorem e186_60 {L : Lo} {S : List Value} {h : Hp} : Run 186 60 L S h = Run 186 61 L (.int 1 :: S) h := Rg rfl
set_option maxRecDepth 100000 in
theorem e186_61 {L : Lo} {S : List Value} {h : Hp} {x z : Int32} : Run 186 61 L (.int z :: .int x :: S) h = Run 186 62 L (.int (x - z) :: S) h := Rg rfl
set_option maxRecDepth 100000 in
theorem e186_62 {L : Lo} {h : Hp} {a2 : Int32} {a1 : Int32} {a0 : Nat} (hO : isO h a0 9 = true) : Run 186 62 L [.int a2, .int a1, .ref a0] h = (Run 185 0 [some (.ref a0), some (.int a1), some (.int a2)] [] h).bind fun o => aft 186 62 65 L [] o := Rcv (c := 185) (As := [.int a1, .int a2]) (S' := []) (pc' := 65) 9 rfl hO
set_option maxRecDepth 100000 in
theorem e186_65 {L : Lo} {S : List Value} {h : Hp} : Run 186 65 L S h = Run 186 66 L (.int 0 :: S) h := Rg rfl
set_option maxRecDepth 100000 in
theorem e186_66 {L : Lo} {S : List Value} {h : Hp} {x0 x1 x2 x3 x4 x5 x6 : Option Value} {y : Option Value} {v : Int32} : Run 186 66 (x0 :: x1 :: x2 :: x3 :: x4 :: x5 :: x6 :: y :: L) (.int v :: S) h = Run 186 68 (x0 :: x1 :: x2 :: x3 :: x4 :: x5 :: ck x6 :: some (.int v) :: L) S h := Rg rfl
set_option maxRecDepth 100000 in
theorem e186_68 {L : Lo} {S : List Value} {h : Hp} {x0 x1 x2 x3 x4 x5 x6 : Option Value} {v : Int32} : Run 186 68 (x0 :: x1 :: x2 :: x3 :: x4 :: x5 :: x6 :: some (.int v) :: L) S h = Run 186 70 (x0 :: x1 :: x2 :: x3 :: x4 :: x5 :: x6 :: some (.int v) :: L) (.int v :: S) h := Rg rfl
set_option maxRecDepth 100000 in
theorem e186_70 {L : Lo} {S : List Value} {h : Hp} : Run 186 70 L S h = Run 186 71 L (.int 2 :: S) h := Rg rfl
set_option maxRecDepth 100000 in
theorem e186_71 {L : Lo} {S : List Value} {h : Hp} {x z : Int32} : Run 186 71 L (.int z :: .int x :: S) h = if z ≤ x then Run 186 136 L S h else Run 186 74 L S h := Rbr (c := cnd .ge x z = true) (off := 65) rfl rfl cnd_ge
set_option maxRecDepth 100000 in
theorem e186_74 {L : Lo} {S : List Value} {h : Hp} {x0 x1 x2 x3 x4 : Option Value} {v : Int32} : Run 186 74 (x0 :: x1 :: x2 :: x3 :: x4 :: some (.int v) :: L) S h = Run 186 76 (x0 :: x1 :: x2 :: x3 :: x4 :: some (.int v) :: L) (.int v :: S) h := Rg rfl
set_option maxRecDepth 100000 in
theorem e186_76 {L : Lo} {S : List Value} {h : Hp} {x0 x1 x2 x3 x4 x5 x6 : Option Value} {v : Int32} : Run 186 76 (x0 :: x1 :: x2 :: x3 :: x4 :: x5 :: x6 :: some (.int v) :: L) S h = Run 186 78 (x0 :: x1 :: x2 :: x3 :: x4 :: x5 :: x6 :: some (.int v) :: L) (.int v :: S) h := Rg rfl
set_option maxRecDepth 100000 in
theorem e186_78 {L : Lo} {S : List Value} {h : Hp} : Run 186 78 L S h = Run 186 79 L (.int 1 :: S) h := Rg rfl
set_option maxRecDepth 100000 in
theorem e186_79 {L : Lo} {S : List Value} {h : Hp} {x z : Int32} : Run 186 79 L (.int z :: .int x :: S) h = if x = z then Run 186 82 L S h else Run 186 86 L S h := RbrN (c := cnd .ne x z = true) (off := 7) rfl rfl cnd_ne
set_option maxRecDepth 100000 in
theorem e186_82 {L : Lo} {S : List Value} {h : Hp} : Run 186 82 L S h = Run 186 83 L (.int 1 :: S) h := Rg rfl
set_option maxRecDepth 100000 in
theorem e186_83 {L : Lo} {S : List Value} {h : Hp} : Run 186 83 L S h = Run 186 87 L S h := Rg rfl
set_option maxRecDepth 100000 in
theorem e186_86 {L : Lo} {S : List Value} {h : Hp} : Run 186 86 L S h = Run 186 87 L (.int 0 :: S) h := Rg rfl
set_option maxRecDepth 100000 in
theorem e186_87 {L : Lo} {h : Hp} {a1 : Int32} {a0 : Int32} : Run 186 87 L [.int a1, .int a0] h = (Run 162 0 [some (.int a0), some (.int a1)] [] h).bind fun o => aft 186 87 90 L [] o := Rc (c := 162) (As := [.int a0, .int a1]) (S' := []) (pc' := 90) rfl
set_option maxRecDepth 100000 in
theorem e186_90 {L : Lo} {S : List Value} {h : Hp} {x0 x1 x2 x3 x4 x5 x6 x7 : Option Value} {y : Option Value} {v : Int32} : Run 186 90 (x0 :: x1 :: x2 :: x3 :: x4 :: x5 :: x6 :: x7 :: y :: L) (.int v :: S) h = Run 186 92 (x0 :: x1 :: x2 :: x3 :: x4 :: x5 :: x6 :: ck x7 :: some (.int v) :: L) S h := Rg rfl
set_option maxRecDepth 100000 in
theorem e186_92 {L : Lo} {S : List Value} {h : Hp} {x0 x1 x2 x3 x4 x5 x6 x7 : Option Value} {v : Int32} : Run 186 92 (x0 :: x1 :: x2 :: x3 :: x4 :: x5 :: x6 :: x7 :: some (.int v) :: L) S h = Run 186 94 (x0 :: x1 :: x2 :: x3 :: x4 :: x5 :: x6 :: x7 :: some (.int v) :: L) (.int v :: S) h := Rg rfl
set_option maxRecDepth 100000 in
theorem e186_94 {L : Lo} {S : List Value} {h : Hp} {v : Nat} : Run 186 94 (some (.ref v) :: L) S h = Run 186 95 (some (.ref v) :: L) (.ref v :: S) h := Rg rfl
set_option maxRecDepth 100000 in
theorem e186_95 {L : Lo} {S : List Value} {h : Hp} {b : Nat} : Run 186 95 L (.ref b :: S) h = (gf h 9 0 b).bind fun v => Run 186 98 L (v :: S) h := Rb rfl fun _ => rfl
set_option maxRecDepth 100000 in
theorem e186_98 {L : Lo} {S : List Value} {h : Hp} : Run 186 98 L S h = Run 186 99 L (.int 2 :: S) h := Rg rfl
set_option maxRecDepth 100000 in
theorem e186_99 {L : Lo} {S : List Value} {h : Hp} {i : Int32} {b : Nat} : Run 186 99 L (.int i :: .ref b :: S) h = (gaI h b i).bind fun v => Run 186 100 L (.int v :: S) h := Rb rfl fun _ => rfl
set_option maxRecDepth 100000 in
theorem e186_100 {L : Lo} {h : Hp} {a1 : Int32} {a0 : Int32} : Run 186 100 L [.int a1, .int a0] h = (Run 143 0 [some (.int a0), some (.int a1), none] [] h).bind fun o => aft 186 100 103 L [] o := Rc (c := 143) (As := [.int a0, .int a1]) (S' := []) (pc' := 103) rfl
set_option maxRecDepth 100000 in
theorem e186_103 {L : Lo} {S : List Value} {h : Hp} : Run 186 103 L S h = Run 186 104 L (.int 3 :: S) h := Rg rfl
set_option maxRecDepth 100000 in
theorem e186_104 {L : Lo} {S : List Value} {h : Hp} {x z : Int32} : Run 186 104 L (.int z :: .int x :: S) h = if x < z then Run 186 114 L S h else Run 186 107 L S h := Rbr (c := cnd .lt x z = true) (off := 10) rfl rfl cnd_lt
set_option maxRecDepth 100000 in
theorem e186_107 {L : Lo} {S : List Value} {h : Hp} {x0 x1 : Option Value} {v : Int32} : Run 186 107 (x0 :: x1 :: some (.int v) :: L) S h = Run 186 108 (x0 :: x1 :: some (.int v) :: L) (.int v :: S) h := Rg rfl
set_option maxRecDepth 100000 in
theorem e186_108 {L : Lo} {S : List Value} {h : Hp} : Run 186 108 L S h = Run 186 109 L (.int 2 :: S) h := Rg rfl
set_option maxRecDepth 100000 in
theorem e186_109 {L : Lo} {S : List Value} {h : Hp} {x z : Int32} (hz : ¬ z = 0) : Run 186 109 L (.int z :: .int x :: S) h = Run 186 110 L (.int (x - x / z * z) :: S) h := Rg (if_neg hz)
set_option maxRecDepth 100000 in
theorem e186_110 {L : Lo} {S : List Value} {h : Hp} : Run 186 110 L S h = Run 186 111 L (.int 1 :: S) h := Rg rfl
set_option maxRecDepth 100000 in
theorem e186_111 {L : Lo} {S : List Value} {h : Hp} {x z : Int32} : Run 186 111 L (.int z :: .int x :: S) h = if x = z then Run 186 114 L S h else Run 186 130 L S h := RbrN (c := cnd .ne x z = true) (off := 19) rfl rfl cnd_ne
set_option maxRecDepth 100000 in
theorem e186_114 {L : Lo} {S : List Value} {h : Hp} {v : Nat} : Run 186 114 (some (.ref v) :: L) S h = Run 186 115 (some (.ref v) :: L) (.ref v :: S) h := Rg rfl
set_option maxRecDepth 100000 in
theorem e186_115 {L : Lo} {S : List Value} {h : Hp} {v : Nat} : Run 186 115 (some (.ref v) :: L) S h = Run 186 116 (some (.ref v) :: L) (.ref v :: S) h := Rg rfl
set_option maxRecDepth 100000 in
theorem e186_116 {L : Lo} {S : List Value} {h : Hp} {x0 x1 x2 x3 : Option Value} {v : Int32} : Run 186 116 (x0 :: x1 :: x2 :: x3 :: some (.int v) :: L) S h = Run 186 118 (x0 :: x1 :: x2 :: x3 :: some (.int v) :: L) (.int v :: S) h := Rg rfl
set_option maxRecDepth 100000 in
theorem e186_118 {L : Lo} {S : List Value} {h : Hp} {x0 x1 x2 x3 x4 x5 x6 x7 : Option Value} {v : Int32} : Run 186 118 (x0 :: x1 :: x2 :: x3 :: x4 :: x5 :: x6 :: x7 :: some (.int v) :: L) S h = Run 186 120 (x0 :: x1 :: x2 :: x3 :: x4 :: x5 :: x6 :: x7 :: some (.int v) :: L) (.int v :: S) h := Rg rfl
set_option maxRecDepth 100000 in
theorem e186_120 {L : Lo} {S : List Value} {h : Hp} : Run 186 120 L S h = Run 186 121 L (.int 0 :: S) h := Rg rfl
set_option maxRecDepth 100000 in
theorem e186_121 {L : Lo} {h : Hp} {a4 : Int32} {a3 : Int32} {a2 : Int32} {a1 : Nat} {a0 : Nat} (hO : isO h a1 9 = true) : Run 186 121 L [.int a4, .int a3, .int a2, .ref a1, .ref a0] h = (Run 183 0 [some (.ref a1), some (.int a2), some (.int a3), some (.int a4)] [] h).bind fun o => aft 186 121 124 L [.ref a0] o := Rcv (c := 183) (As := [.int a2, .int a3, .int a4]) (S' := [.ref a0]) (pc' := 124) 9 rfl hO
set_option maxRecDepth 100000 in
theorem e186_124 {L : Lo} {S : List Value} {h : Hp} {x0 x1 x2 : Option Value} {v : Int32} : Run 186 124 (x0 :: x1 :: x2 :: some (.int v) :: L) S h = Run 186 125 (x0 :: x1 :: x2 :: some (.int v) :: L) (.int v :: S) h := Rg rfl
set_option maxRecDepth 100000 in
theorem e186_125 {L : Lo} {S : List Value} {h : Hp} : Run 186 125 L S h = Run 186 126 L (.int 1 :: S) h := Rg rfl
set_option maxRecDepth 100000 in
theorem e186_126 {L : Lo} {S : List Value} {h : Hp} {x z : Int32} : Run 186 126 L (.int z :: .int x :: S) h = Run 186 127 L (.int (x - z) :: S) h := Rg rfl
set_option maxRecDepth 100000 in
theorem e186_127 {L : Lo} {h : Hp} {a2 : Int32} {a1 : Int32} {a0 : Nat} (hO : isO h a0 9 = true) : Run 186 127 L [.int a2, .int a1, .ref a0] h = (Run 185 0 [some (.ref a0), some (.int a1), some (.int a2)] [] h).bind fun o => aft 186 127 130 L [] o := Rcv (c := 185) (As := [.int a1, .int a2]) (S' := []) (pc' := 130) 9 rfl hO
set_option maxRecDepth 100000 in
theorem e186_130 {L : Lo} {S : List Value} {h : Hp} {x0 x1 x2 x3 x4 x5 x6 : Option Value} {v : Int32} : Run 186 130 (x0 :: x1 :: x2 :: x3 :: x4 :: x5 :: x6 :: some (.int v) :: L) S h = Run 186 133 (x0 :: x1 :: x2 :: x3 :: x4 :: x5 :: x6 :: some (.int (v + 1)) :: L) S h := Rg rfl
set_option maxRecDepth 100000 in
theorem e186_133 {L : Lo} {S : List Value} {h : Hp} : Run 186 133 L S h = Run 186 68 L S h := Rg rfl
set_option maxRecDepth 100000 in
theorem e186_136 {L : Lo} {h : Hp} : Run 186 136 L [] h = some (.inl none, h) := Rd rfl
set_option maxRecDepth 100000 in
theorem e187_0 {L : Lo} {S : List Value} {h : Hp} : Run 187 0 L S h = Run 187 1 L (.int 0 :: S) h := Rg rfl
set_option maxRecDepth 100000 in
theorem e187_1 {L : Lo} {S : List Value} {h : Hp} {x0 x1 : Option Value} {y : Option Value} {v : Int32} : Run 187 1 (x0 :: x1 :: y :: L) (.int v :: S) h = Run 187 2 (x0 :: ck x1 :: some (.int v) :: L) S h := Rg rfl
set_option maxRecDepth 100000 in
theorem e187_2 {L : Lo} {S : List Value} {h : Hp} {x0 x1 : Option Value} {v : Int32} : Run 187 2 (x0 :: x1 :: some (.int v) :: L) S h = Run 187 3 (x0 :: x1 :: some (.int v) :: L) (.int v :: S) h := Rg rfl
set_option maxRecDepth 100000 in
theorem e187_3 {L : Lo} {S : List Value} {h : Hp} : Run 187 3 L S h = Run 187 6 L (.int 1728 :: S) h := Rg rfl
set_option maxRecDepth 100000 in
theorem e187_6 {L : Lo} {S : List Value} {h : Hp} {x z : Int32} : Run 187 6 L (.int z :: .int x :: S) h = if z ≤ x then Run 187 22 L S h else Run 187 9 L S h := Rbr (c := cnd .ge x z = true) (off := 16) rfl rfl cnd_ge
set_option maxRecDepth 100000 in
theorem e187_9 {L : Lo} {S : List Value} {h : Hp} {v : Nat} : Run 187 9 (some (.ref v) :: L) S h = Run 187 10 (some (.ref v) :: L) (.ref v :: S) h := Rg rfl
set_option maxRecDepth 100000 in
theorem e187_10 {L : Lo} {S : List Value} {h : Hp} {b : Nat} : Run 187 10 L (.ref b :: S) h = (gf h 9 6 b).bind fun v => Run 187 13 L (v :: S) h := Rb rfl fun _ => rfl
set_option maxRecDepth 100000 in
theorem e187_13 {L : Lo} {S : List Value} {h : Hp} {x0 x1 : Option Value} {v : Int32} : Run 187 13 (x0 :: x1 :: some (.int v) :: L) S h = Run 187 14 (x0 :: x1 :: some (.int v) :: L) (.int v :: S) h := Rg rfl
set_option maxRecDepth 100000 in
theorem e187_14 {L : Lo} {S : List Value} {h : Hp} : Run 187 14 L S h = Run 187 15 L (.int (-1) :: S) h := Rg rfl
set_option maxRecDepth 100000 in
theorem e187_15 {L : Lo} {S : List Value} {h : Hp} {v : Int32} {i : Int32} {b : Nat} : Run 187 15 L (.int v :: .int i :: .ref b :: S) h = (paI h b i v).bind fun h1 => Run 187 16 L S h1 := Rb rfl fun _ => rfl
set_option maxRecDepth 100000 in
theorem e187_16 {L : Lo} {S : List Value} {h : Hp} {x0 x1 : Option Value} {v : Int32} : Run 187 16 (x0 :: x1 :: some (.int v) :: L) S h = Run 187 19 (x0 :: x1 :: some (.int (v + 1)) :: L) S h := Rg rfl
set_option maxRecDepth 100000 in
theorem e187_19 {L : Lo} {S : List Value} {h : Hp} : Run 187 19 L S h = Run 187 2 L S h := Rg rfl
set_option maxRecDepth 100000 in
theorem e187_22 {L : Lo} {S : List Value} {h : Hp} {v : Nat} : Run 187 22 (some (.ref v) :: L) S h = Run 187 23 (some (.ref v) :: L) (.ref v :: S) h := Rg rfl
set_option maxRecDepth 100000 in
theorem e187_23 {L : Lo} {S : List Value} {h : Hp} {b : Nat} : Run 187 23 L (.ref b :: S) h = (gf h 9 6 b).bind fun v => Run 187 26 L (v :: S) h := Rb rfl fun _ => rfl
set_option maxRecDepth 100000 in
theorem e187_26 {L : Lo} {S : List Value} {h : Hp} {v : Nat} : Run 187 26 (some (.ref v) :: L) S h = Run 187 27 (some (.ref v) :: L) (.ref v :: S) h := Rg rfl
set_option maxRecDepth 100000 in
theorem e187_27 {L : Lo} {S : List Value} {h : Hp} {v : Nat} : Run 187 27 (some (.ref v) :: L) S h = Run 187 28 (some (.ref v) :: L) (.ref v :: S) h := Rg rfl
set_option maxRecDepth 100000 in
theorem e187_28 {L : Lo} {S : List Value} {h : Hp} {x0 : Option Value} {v : Int32} : Run 187 28 (x0 :: some (.int v) :: L) S h = Run 187 29 (x0 :: some (.int v) :: L) (.int v :: S) h := Rg rfl
set_option maxRecDepth 100000 in
theorem e187_29 {L : Lo} {S : List Value} {h : Hp} : Run 187 29 L S h = Run 187 30 L (.int 1 :: S) h := Rg rfl
set_option maxRecDepth 100000 in
theorem e187_30 {L : Lo} {h : Hp} {a4 : Int32} {a3 : Int32} {a2 : Nat} {a1 : Nat} {a0 : Nat} (hO : isO h a2 9 = true) : Run 187 30 L [.int a4, .int a3, .ref a2, .ref a1, .ref a0] h = (Run 125 0 [some (.ref a2), some (.int a3), some (.int a4)] [] h).bind fun o => aft 187 30 33 L [.ref a1, .ref a0] o := Rcv (c := 125) (As := [.int a3, .int a4]) (S' := [.ref a1, .ref a0]) (pc' := 33) 9 rfl hO
set_option maxRecDepth 100000 in
theorem e187_33 {L : Lo} {S : List Value} {h : Hp} {v : Nat} : Run 187 33 (some (.ref v) :: L) S h = Run 187 34 (some (.ref v) :: L) (.ref v :: S) h := Rg rfl
set_option maxRecDepth 100000 in
theorem e187_34 {L : Lo} {S : List Value} {h : Hp} {x0 : Option Value} {v : Int32} : Run 187 34 (x0 :: some (.int v) :: L) S h = Run 187 35 (x0 :: some (.int v) :: L) (.int v :: S) h := Rg rfl
set_option maxRecDepth 100000 in
theorem e187_35 {L : Lo} {S : List Value} {h : Hp} : Run 187 35 L S h = Run 187 36 L (.int 2 :: S) h := Rg rfl
set_option maxRecDepth 100000 in
theorem e187_36 {L : Lo} {h : Hp} {a5 : Int32} {a4 : Int32} {a3 : Nat} {a2 : Int32} {a1 : Nat} {a0 : Nat} (hO : isO h a3 9 = true) : Run 187 36 L [.int a5, .int a4, .ref a3, .int a2, .ref a1, .ref a0] h = (Run 125 0 [some (.ref a3), some (.int a4), some (.int a5)] [] h).bind fun o => aft 187 36 39 L [.int a2, .ref a1, .ref a0] o := Rcv (c := 125) (As := [.int a4, .int a5]) (S' := [.int a2, .ref a1, .ref a0]) (pc' := 39) 9 rfl hO
set_option maxRecDepth 100000 in
theorem e187_39 {L : Lo} {S : List Value} {h : Hp} {v : Nat} : Run 187 39 (some (.ref v) :: L) S h = Run 187 40 (some (.ref v) :: L) (.ref v :: S) h := Rg rfl
set_option maxRecDepth 100000 in
theorem e187_40 {L : Lo} {S : List Value} {h : Hp} {x0 : Option Value} {v : Int32} : Run 187 40 (x0 :: some (.int v) :: L) S h = Run 187 41 (x0 :: some (.int v) :: L) (.int v :: S) h := Rg rfl
set_option maxRecDepth 100000 in
theorem e187_41 {L : Lo} {S : List Value} {h : Hp} : Run 187 41 L S h = Run 187 43 L (.int 13 :: S) h := Rg rfl
set_option maxRecDepth 100000 in
theorem e187_43 {L : Lo} {h : Hp} {a6 : Int32} {a5 : Int32} {a4 : Nat} {a3 : Int32} {a2 : Int32} {a1 : Nat} {a0 : Nat} (hO : isO h a4 9 = true) : Run 187 43 L [.int a6, .int a5, .ref a4, .int a3, .int a2, .ref a1, .ref a0] h = (Run 125 0 [some (.ref a4), some (.int a5), some (.int a6)] [] h).bind fun o => aft 187 43 46 L [.int a3, .int a2, .ref a1, .ref a0] o := Rcv (c := 125) (As := [.int a5, .int a6]) (S' := [.int a3, .int a2, .ref a1, .ref a0]) (pc' := 46) 9 rfl hO
set_option maxRecDepth 100000 in
theorem e187_46 {L : Lo} {h : Hp} {a4 : Int32} {a3 : Int32} {a2 : Int32} {a1 : Nat} {a0 : Nat} (hO : isO h a1 9 = true) : Run 187 46 L [.int a4, .int a3, .int a2, .ref a1, .ref a0] h = (Run 183 0 [some (.ref a1), some (.int a2), some (.int a3), some (.int a4)] [] h).bind fun o => aft 187 46 49 L [.ref a0] o := Rcv (c := 183) (As := [.int a2, .int a3, .int a4]) (S' := [.ref a0]) (pc' := 49) 9 rfl hO
set_option maxRecDepth 100000 in
theorem e187_49 {L : Lo} {S : List Value} {h : Hp} {v : Nat} : Run 187 49 (some (.ref v) :: L) S h = Run 187 50 (some (.ref v) :: L) (.ref v :: S) h := Rg rfl
set_option maxRecDepth 100000 in
theorem e187_50 {L : Lo} {S : List Value} {h : Hp} {x0 : Option Value} {v : Int32} : Run 187 50 (x0 :: some (.int v) :: L) S h = Run 187 51 (x0 :: some (.int v) :: L) (.int v :: S) h := Rg rfl
set_option maxRecDepth 100000 in
theorem e187_51 {L : Lo} {S : List Value} {h : Hp} : Run 187 51 L S h = Run 187 53 L (.int 8 :: S) h := Rg rfl
set_option maxRecDepth 100000 in
theorem e187_53 {L : Lo} {h : Hp} {a4 : Int32} {a3 : Int32} {a2 : Nat} {a1 : Int32} {a0 : Nat} (hO : isO h a2 9 = true) : Run 187 53 L [.int a4, .int a3, .ref a2, .int a1, .ref a0] h = (Run 125 0 [some (.ref a2), some (.int a3), some (.int a4)] [] h).bind fun o => aft 187 53 56 L [.int a1, .ref a0] o := Rcv (c := 125) (As := [.int a3, .int a4]) (S' := [.int a1, .ref a0]) (pc' := 56) 9 rfl hO
set_option maxRecDepth 100000 in
theorem e187_56 {L : Lo} {S : List Value} {h : Hp} {v : Int32} {i : Int32} {b : Nat} : Run 187 56 L (.int v :: .int i :: .ref b :: S) h = (paI h b i v).bind fun h1 => Run 187 57 L S h1 := Rb rfl fun _ => rfl
set_option maxRecDepth 100000 in
theorem e187_57 {L : Lo} {S : List Value} {h : Hp} {v : Nat} : Run 187 57 (some (.ref v) :: L) S h = Run 187 58 (some (.ref v) :: L) (.ref v :: S) h := Rg rfl
set_option maxRecDepth 100000 in
theorem e187_58 {L : Lo} {S : List Value} {h : Hp} {x0 : Option Value} {v : Int32} : Run 187 58 (x0 :: some (.int v) :: L) S h = Run 187 59 (x0 :: some (.int v) :: L) (.int v :: S) h := Rg rfl
set_option maxRecDepth 100000 in
theorem e187_59 {L : Lo} {S : List Value} {h : Hp} : Run 187 59 L S h = Run 187 60 L (.int 4 :: S) h := Rg rfl
set_option maxRecDepth 100000 in
theorem e187_60 {L : Lo} {h : Hp} {a2 : Int32} {a1 : Int32} {a0 : Nat} (hO : isO h a0 9 = true) : Run 187 60 L [.int a2, .int a1, .ref a0] h = (Run 125 0 [some (.ref a0), some (.int a1), some (.int a2)] [] h).bind fun o => aft 187 60 63 L [] o := Rcv (c := 125) (As := [.int a1, .int a2]) (S' := []) (pc' := 63) 9 rfl hO
set_option maxRecDepth 100000 in
theorem e187_63 {L : Lo} {S : List Value} {h : Hp} {x : Int32} : Run 187 63 L (.int x :: S) h = if x ≤ 0 then Run 187 87 L S h else Run 187 66 L S h := Rbr (c := cnd .le x 0 = true) (off := 24) rfl rfl cnd_le
set_option maxRecDepth 100000 in
theorem e187_66 {L : Lo} {S : List Value} {h : Hp} {v : Nat} : Run 187 66 (some (.ref v) :: L) S h = Run 187 67 (some (.ref v) :: L) (.ref v :: S) h := Rg rfl
set_option maxRecDepth 100000 in
theorem e187_67 {L : Lo} {S : List Value} {h : Hp} {x0 : Option Value} {v : Int32} : Run 187 67 (x0 :: some (.int v) :: L) S h = Run 187 68 (x0 :: some (.int v) :: L) (.int v :: S) h := Rg rfl
set_option maxRecDepth 100000 in
theorem e187_68 {L : Lo} {S : List Value} {h : Hp} : Run 187 68 L S h = Run 187 70 L (.int 11 :: S) h := Rg rfl
set_option maxRecDepth 100000 in
theorem e187_70 {L : Lo} {h : Hp} {a2 : Int32} {a1 : Int32} {a0 : Nat} (hO : isO h a0 9 = true) : Run 187 70 L [.int a2, .int a1, .ref a0] h = (Run 125 0 [some (.ref a0), some (.int a1), some (.int a2)] [] h).bind fun o => aft 187 70 73 L [] o := Rcv (c := 125) (As := [.int a1, .int a2]) (S' := []) (pc' := 73) 9 rfl hO
set_option maxRecDepth 100000 in
theorem e187_73 {L : Lo} {S : List Value} {h : Hp} : Run 187 73 L S h = Run 187 74 L (.int (-1) :: S) h := Rg rfl
set_option maxRecDepth 100000 in
theorem e187_74 {L : Lo} {S : List Value} {h : Hp} {x z : Int32} : Run 187 74 L (.int z :: .int x :: S) h = if x = z then Run 187 77 L S h else Run 187 87 L S h := RbrN (c := cnd .ne x z = true) (off := 13) rfl rfl cnd_ne
set_option maxRecDepth 100000 in
theorem e187_77 {L : Lo} {S : List Value} {h : Hp} {v : Nat} : Run 187 77 (some (.ref v) :: L) S h = Run 187 78 (some (.ref v) :: L) (.ref v :: S) h := Rg rfl
set_option maxRecDepth 100000 in
theorem e187_78 {L : Lo} {S : List Value} {h : Hp} {x0 : Option Value} {v : Int32} : Run 187 78 (x0 :: some (.int v) :: L) S h = Run 187 79 (x0 :: some (.int v) :: L) (.int v :: S) h := Rg rfl
set_option maxRecDepth 100000 in
theorem e187_79 {L : Lo} {S : List Value} {h : Hp} : Run 187 79 L S h = Run 187 81 L (.int 8 :: S) h := Rg rfl
set_option maxRecDepth 100000 in
theorem e187_81 {L : Lo} {h : Hp} {a2 : Int32} {a1 : Int32} {a0 : Nat} (hO : isO h a0 9 = true) : Run 187 81 L [.int a2, .int a1, .ref a0] h = (Run 125 0 [some (.ref a0), some (.int a1), some (.int a2)] [] h).bind fun o => aft 187 81 84 L [] o := Rcv (c := 125) (As := [.int a1, .int a2]) (S' := []) (pc' := 84) 9 rfl hO
set_option maxRecDepth 100000 in
theorem e187_84 {L : Lo} {S : List Value} {h : Hp} : Run 187 84 L S h = Run 187 88 L S h := Rg rfl
set_option maxRecDepth 100000 in
theorem e187_87 {L : Lo} {S : List Value} {h : Hp} : Run 187 87 L S h = Run 187 88 L (.int 0 :: S) h := Rg rfl
set_option maxRecDepth 100000 in
theorem e187_88 {L : Lo} {S : List Value} {h : Hp} {x0 x1 : Option Value} {y : Option Value} {v : Int32} : Run 187 88 (x0 :: x1 :: y :: L) (.int v :: S) h = Run 187 89 (x0 :: ck x1 :: some (.int v) :: L) S h := Rg rfl
set_option maxRecDepth 100000 in
theorem e187_89 {L : Lo} {S : List Value} {h : Hp} {x0 x1 : Option Value} {v : Int32} : Run 187 89 (x0 :: x1 :: some (.int v) :: L) S h = Run 187 90 (x0 :: x1 :: some (.int v) :: L) (.int v :: S) h := Rg rfl
set_option maxRecDepth 100000 in
theorem e187_90 {L : Lo} {S : List Value} {h : Hp} {x0 x1 x2 : Option Value} {y : Option Value} {v : Int32} : Run 187 90 (x0 :: x1 :: x2 :: y :: L) (.int v :: S) h = Run 187 91 (x0 :: x1 :: ck x2 :: some (.int v) :: L) S h := Rg rfl
set_option maxRecDepth 100000 in
theorem e187_91 {L : Lo} {S : List Value} {h : Hp} {x0 x1 x2 : Option Value} {v : Int32} : Run 187 91 (x0 :: x1 :: x2 :: some (.int v) :: L) S h = Run 187 92 (x0 :: x1 :: x2 :: some (.int v) :: L) (.int v :: S) h := Rg rfl
set_option maxRecDepth 100000 in
theorem e187_92 {L : Lo} {S : List Value} {h : Hp} {x : Int32} : Run 187 92 L (.int x :: S) h = if x ≤ 0 then Run 187 141 L S h else Run 187 95 L S h := Rbr (c := cnd .le x 0 = true) (off := 49) rfl rfl cnd_le
set_option maxRecDepth 100000 in
theorem e187_95 {L : Lo} {S : List Value} {h : Hp} : Run 187 95 L S h = Run 187 96 L (.int 0 :: S) h := Rg rfl
set_option maxRecDepth 100000 in
theorem e187_96 {L : Lo} {S : List Value} {h : Hp} {x0 x1 x2 x3 : Option Value} {y : Option Value} {v : Int32} : Run 187 96 (x0 :: x1 :: x2 :: x3 :: y :: L) (.int v :: S) h = Run 187 98 (x0 :: x1 :: x2 :: ck x3 :: some (.int v) :: L) S h := Rg rfl
set_option maxRecDepth 100000 in
theorem e187_98 {L : Lo} {S : List Value} {h : Hp} {x0 x1 x2 x3 : Option Value} {v : Int32} : Run 187 98 (x0 :: x1 :: x2 :: x3 :: some (.int v) :: L) S h = Run 187 100 (x0 :: x1 :: x2 :: x3 :: some (.int v) :: L) (.int v :: S) h := Rg rfl
set_option maxRecDepth 100000 in
theorem e187_100 {L : Lo} {S : List Value} {h : Hp} : Run 187 100 L S h = Run 187 102 L (.int 12 :: S) h := Rg rfl
set_option maxRecDepth 100000 in
theorem e187_102 {L : Lo} {S : List Value} {h : Hp} {v : Nat} : Run 187 102 (some (.ref v) :: L) S h = Run 187 103 (some (.ref v) :: L) (.ref v :: S) h := Rg rfl
set_option maxRecDepth 100000 in
theorem e187_103 {L : Lo} {h : Hp} {a2 : Nat} {a1 : Int32} {a0 : Int32} (hO : isO h a2 9 = true) : Run 187 103 L [.ref a2, .int a1, .int a0] h = (Run 122 0 [some (.ref a2)] [] h).bind fun o => aft 187 103 106 L [.int a1, .int a0] o := Rcv (c := 122) (As := []) (S' := [.int a1, .int a0]) (pc' := 106) 9 rfl hO
set_option maxRecDepth 100000 in
theorem e187_106 {L : Lo} {S : List Value} {h : Hp} {x z : Int32} : Run 187 106 L (.int z :: .int x :: S) h = Run 187 107 L (.int (x * z) :: S) h := Rg rfl
set_option maxRecDepth 100000 in
theorem e187_107 {L : Lo} {S : List Value} {h : Hp} {x z : Int32} : Run 187 107 L (.int z :: .int x :: S) h = if z ≤ x then Run 187 135 L S h else Run 187 110 L S h := Rbr (c := cnd .ge x z = true) (off := 28) rfl rfl cnd_ge
set_option maxRecDepth 100000 in
theorem e187_110 {L : Lo} {S : List Value} {h : Hp} {v : Nat} : Run 187 110 (some (.ref v) :: L) S h = Run 187 111 (some (.ref v) :: L) (.ref v :: S) h := Rg rfl
set_option maxRecDepth 100000 in
theorem e187_111 {L : Lo} {S : List Value} {h : Hp} {b : Nat} : Run 187 111 L (.ref b :: S) h = (gf h 9 6 b).bind fun v => Run 187 114 L (v :: S) h := Rb rfl fun _ => rfl
set_option maxRecDepth 100000 in
theorem e187_114 {L : Lo} {S : List Value} {h : Hp} {x0 x1 x2 x3 : Option Value} {v : Int32} : Run 187 114 (x0 :: x1 :: x2 :: x3 :: some (.int v) :: L) S h = Run 187 116 (x0 :: x1 :: x2 :: x3 :: some (.int v) :: L) (.int v :: S) h := Rg rfl
set_option maxRecDepth 100000 in
theorem e187_116 {L : Lo} {S : List Value} {h : Hp} {i : Int32} {b : Nat} : Run 187 116 L (.int i :: .ref b :: S) h = (gaI h b i).bind fun v => Run 187 117 L (.int v :: S) h := Rb rfl fun _ => rfl
set_option maxRecDepth 100000 in
theorem e187_117 {L : Lo} {S : List Value} {h : Hp} {x0 x1 x2 : Option Value} {v : Int32} : Run 187 117 (x0 :: x1 :: x2 :: some (.int v) :: L) S h = Run 187 118 (x0 :: x1 :: x2 :: some (.int v) :: L) (.int v :: S) h := Rg rfl
set_option maxRecDepth 100000 in
theorem e187_118 {L : Lo} {S : List Value} {h : Hp} {x z : Int32} : Run 187 118 L (.int z :: .int x :: S) h = if x = z then Run 187 121 L S h else Run 187 129 L S h := RbrN (c := cnd .ne x z = true) (off := 11) rfl rfl cnd_ne
set_option maxRecDepth 100000 in
theorem e187_121 {L : Lo} {S : List Value} {h : Hp} {v : Nat} : Run 187 121 (some (.ref v) :: L) S h = Run 187 122 (some (.ref v) :: L) (.ref v :: S) h := Rg rfl
set_option maxRecDepth 100000 in
theorem e187_122 {L : Lo} {S : List Value} {h : Hp} {x0 : Option Value} {v : Int32} : Run 187 122 (x0 :: some (.int v) :: L) S h = Run 187 123 (x0 :: some (.int v) :: L) (.int v :: S) h := Rg rfl
set_option maxRecDepth 100000 in
theorem e187_123 {L : Lo} {S : List Value} {h : Hp} {x0 x1 x2 x3 : Option Value} {v : Int32} : Run 187 123 (x0 :: x1 :: x2 :: x3 :: some (.int v) :: L) S h = Run 187 125 (x0 :: x1 :: x2 :: x3 :: some (.int v) :: L) (.int v :: S) h := Rg rfl
set_option maxRecDepth 100000 in
theorem e187_125 {L : Lo} {S : List Value} {h : Hp} {x0 x1 x2 : Option Value} {v : Int32} : Run 187 125 (x0 :: x1 :: x2 :: some (.int v) :: L) S h = Run 187 126 (x0 :: x1 :: x2 :: some (.int v) :: L) (.int v :: S) h := Rg rfl
set_option maxRecDepth 100000 in
theorem e187_126 {L : Lo} {h : Hp} {a3 : Int32} {a2 : Int32} {a1 : Int32} {a0 : Nat} (hO : isO h a0 9 = true) : Run 187 126 L [.int a3, .int a2, .int a1, .ref a0] h = (Run 186 0 [some (.ref a0), some (.int a1), some (.int a2), some (.int a3), none, none, none, none, none] [] h).bind fun o => aft 187 126 129 L [] o := Rcv (c := 186) (As := [.int a1, .int a2, .int a3]) (S' := []) (pc' := 129) 9 rfl hO
set_option maxRecDepth 100000 in
theorem e187_129 {L : Lo} {S : List Value} {h : Hp} {x0 x1 x2 x3 : Option Value} {v : Int32} : Run 187 129 (x0 :: x1 :: x2 :: x3 :: some (.int v) :: L) S h = Run 187 132 (x0 :: x1 :: x2 :: x3 :: some (.int (v + 1)) :: L) S h := Rg rfl
set_option maxRecDepth 100000 in
theorem e187_132 {L : Lo} {S : List Value} {h : Hp} : Run 187 132 L S h = Run 187 98 L S h := Rg rfl
set_option maxRecDepth 100000 in
theorem e187_135 {L : Lo} {S : List Value} {h : Hp} {x0 x1 x2 : Option Value} {v : Int32} : Run 187 135 (x0 :: x1 :: x2 :: some (.int v) :: L) S h = Run 187 138 (x0 :: x1 :: x2 :: some (.int (v + (-1))) :: L) S h := Rg rfl
set_option maxRecDepth 100000 in
theorem e187_138 {L : Lo} {S : List Value} {h : Hp} : Run 187 138 L S h = Run 187 91 L S h := Rg rfl
set_option maxRecDepth 100000 in
theorem e187_141 {L : Lo} {h : Hp} : Run 187 141 L [] h = some (.inl none, h) := Rd rfl
set_option maxRecDepth 100000 in
theorem e188_0 {L : Lo} {S : List Value} {h : Hp} : Run 188 0 L S h = Run 188 1 L (.int (-1) :: S) h := Rg rfl
set_option maxRecDepth 100000 in
theorem e188_1 {L : Lo} {S : List Value} {h : Hp} {x0 x1 : Option Value} {y : Option Value} {v : Int32} : Run 188 1 (x0 :: x1 :: y :: L) (.int v :: S) h = Run 188 2 (x0 :: ck x1 :: some (.int v) :: L) S h := Rg rfl
set_option maxRecDepth 100000 in
theorem e188_2 {L : Lo} {S : List Value} {h : Hp} : Run 188 2 L S h = Run 188 4 L (.int 12 :: S) h := Rg rfl
set_option maxRecDepth 100000 in
theorem e188_4 {L : Lo} {S : List Value} {h : Hp} {x0 : Option Value} {v : Int32} : Run 188 4 (x0 :: some (.int v) :: L) S h = Run 188 5 (x0 :: some (.int v) :: L) (.int v :: S) h := Rg rfl
set_option maxRecDepth 100000 in
theorem e188_5 {L : Lo} {S : List Value} {h : Hp} {x z : Int32} : Run 188 5 L (.int z :: .int x :: S) h = Run 188 6 L (.int (x * z) :: S) h := Rg rfl
set_option maxRecDepth 100000 in
theorem e188_6 {L : Lo} {S : List Value} {h : Hp} {x0 x1 x2 : Option Value} {y : Option Value} {v : Int32} : Run 188 6 (x0 :: x1 :: x2 :: y :: L) (.int v :: S) h = Run 188 7 (x0 :: x1 :: ck x2 :: some (.int v) :: L) S h := Rg rfl
set_option maxRecDepth 100000 in
theorem e188_7 {L : Lo} {S : List Value} {h : Hp} {x0 x1 x2 : Option Value} {v : Int32} : Run 188 7 (x0 :: x1 :: x2 :: some (.int v) :: L) S h = Run 188 8 (x0 :: x1 :: x2 :: some (.int v) :: L) (.int v :: S) h := Rg rfl
set_option maxRecDepth 100000 in
theorem e188_8 {L : Lo} {S : List Value} {h : Hp} : Run 188 8 L S h = Run 188 10 L (.int 12 :: S) h := Rg rfl
set_option maxRecDepth 100000 in
theorem e188_10 {L : Lo} {S : List Value} {h : Hp} {x0 : Option Value} {v : Int32} : Run 188 10 (x0 :: some (.int v) :: L) S h = Run 188 11 (x0 :: some (.int v) :: L) (.int v :: S) h := Rg rfl
set_option maxRecDepth 100000 in
theorem e188_11 {L : Lo} {S : List Value} {h : Hp} {x z : Int32} : Run 188 11 L (.int z :: .int x :: S) h = Run 188 12 L (.int (x * z) :: S) h := Rg rfl
set_option maxRecDepth 100000 in
theorem e188_12 {L : Lo} {S : List Value} {h : Hp} : Run 188 12 L S h = Run 188 14 L (.int 12 :: S) h := Rg rfl
set_option maxRecDepth 100000 in
theorem e188_14 {L : Lo} {S : List Value} {h : Hp} {x z : Int32} : Run 188 14 L (.int z :: .int x :: S) h = Run 188 15 L (.int (x + z) :: S) h := Rg rfl
set_option maxRecDepth 100000 in
theorem e188_15 {L : Lo} {S : List Value} {h : Hp} {x z : Int32} : Run 188 15 L (.int z :: .int x :: S) h = if z ≤ x then Run 188 45 L S h else Run 188 18 L S h := Rbr (c := cnd .ge x z = true) (off := 30) rfl rfl cnd_ge
set_option maxRecDepth 100000 in
theorem e188_18 {L : Lo} {S : List Value} {h : Hp} {v : Nat} : Run 188 18 (some (.ref v) :: L) S h = Run 188 19 (some (.ref v) :: L) (.ref v :: S) h := Rg rfl
set_option maxRecDepth 100000 in
theorem e188_19 {L : Lo} {S : List Value} {h : Hp} {b : Nat} : Run 188 19 L (.ref b :: S) h = (gf h 9 6 b).bind fun v => Run 188 22 L (v :: S) h := Rb rfl fun _ => rfl
set_option maxRecDepth 100000 in
theorem e188_22 {L : Lo} {S : List Value} {h : Hp} {x0 x1 x2 : Option Value} {v : Int32} : Run 188 22 (x0 :: x1 :: x2 :: some (.int v) :: L) S h = Run 188 23 (x0 :: x1 :: x2 :: some (.int v) :: L) (.int v :: S) h := Rg rfl
set_option maxRecDepth 100000 in
theorem e188_23 {L : Lo} {S : List Value} {h : Hp} {i : Int32} {b : Nat} : Run 188 23 L (.int i :: .ref b :: S) h = (gaI h b i).bind fun v => Run 188 24 L (.int v :: S) h := Rb rfl fun _ => rfl
set_option maxRecDepth 100000 in
theorem e188_24 {L : Lo} {S : List Value} {h : Hp} {x0 x1 : Option Value} {v : Int32} : Run 188 24 (x0 :: x1 :: some (.int v) :: L) S h = Run 188 25 (x0 :: x1 :: some (.int v) :: L) (.int v :: S) h := Rg rfl
set_option maxRecDepth 100000 in
theorem e188_25 {L : Lo} {S : List Value} {h : Hp} {x z : Int32} : Run 188 25 L (.int z :: .int x :: S) h = if x ≤ z then Run 188 37 L S h else Run 188 28 L S h := Rbr (c := cnd .le x z = true) (off := 12) rfl rfl cnd_le
set_option maxRecDepth 100000 in
theorem e188_28 {L : Lo} {S : List Value} {h : Hp} {v : Nat} : Run 188 28 (some (.ref v) :: L) S h = Run 188 29 (some (.ref v) :: L) (.ref v :: S) h := Rg rfl
set_option maxRecDepth 100000 in
theorem e188_29 {L : Lo} {S : List Value} {h : Hp} {b : Nat} : Run 188 29 L (.ref b :: S) h = (gf h 9 6 b).bind fun v => Run 188 32 L (v :: S) h := Rb rfl fun _ => rfl
set_option maxRecDepth 100000 in
theorem e188_32 {L : Lo} {S : List Value} {h : Hp} {x0 x1 x2 : Option Value} {v : Int32} : Run 188 32 (x0 :: x1 :: x2 :: some (.int v) :: L) S h = Run 188 33 (x0 :: x1 :: x2 :: some (.int v) :: L) (.int v :: S) h := Rg rfl
set_option maxRecDepth 100000 in
theorem e188_33 {L : Lo} {S : List Value} {h : Hp} {i : Int32} {b : Nat} : Run 188 33 L (.int i :: .ref b :: S) h = (gaI h b i).bind fun v => Run 188 34 L (.int v :: S) h := Rb rfl fun _ => rfl
set_option maxRecDepth 100000 in
theorem e188_34 {L : Lo} {S : List Value} {h : Hp} : Run 188 34 L S h = Run 188 38 L S h := Rg rfl
set_option maxRecDepth 100000 in
theorem e188_37 {L : Lo} {S : List Value} {h : Hp} {x0 x1 : Option Value} {v : Int32} : Run 188 37 (x0 :: x1 :: some (.int v) :: L) S h = Run 188 38 (x0 :: x1 :: some (.int v) :: L) (.int v :: S) h := Rg rfl
set_option maxRecDepth 100000 in
theorem e188_38 {L : Lo} {S : List Value} {h : Hp} {x0 x1 : Option Value} {y : Option Value} {v : Int32} : Run 188 38 (x0 :: x1 :: y :: L) (.int v :: S) h = Run 188 39 (x0 :: ck x1 :: some (.int v) :: L) S h := Rg rfl
set_option maxRecDepth 100000 in
theorem e188_39 {L : Lo} {S : List Value} {h : Hp} {x0 x1 x2 : Option Value} {v : Int32} : Run 188 39 (x0 :: x1 :: x2 :: some (.int v) :: L) S h = Run 188 42 (x0 :: x1 :: x2 :: some (.int (v + 1)) :: L) S h := Rg rfl
set_option maxRecDepth 100000 in
theorem e188_42 {L : Lo} {S : List Value} {h : Hp} : Run 188 42 L S h = Run 188 7 L S h := Rg rfl
set_option maxRecDepth 100000 in
theorem e188_45 {L : Lo} {S : List Value} {h : Hp} {x0 x1 : Option Value} {v : Int32} : Run 188 45 (x0 :: x1 :: some (.int v) :: L) S h = Run 188 46 (x0 :: x1 :: some (.int v) :: L) (.int v :: S) h := Rg rfl
set_option maxRecDepth 100000 in
theorem e188_46 {L : Lo} {h : Hp} {x : Int32} : Run 188 46 L [.int x] h = some (.inl (some (.int x)), h) := Rd (if_pos (c := narrow .int (.int x) = .int x) rfl)
set_option maxRecDepth 100000 in
theorem e189_0 {L : Lo} {S : List Value} {h : Hp} {v : Nat} : Run 189 0 (some (.ref v) :: L) S h = Run 189 1 (some (.ref v) :: L) (.ref v :: S) h := Rg rfl
set_option maxRecDepth 100000 in
theorem e189_1 {L : Lo} {S : List Value} {h : Hp} {x0 : Option Value} {v : Int32} : Run 189 1 (x0 :: some (.int v) :: L) S h = Run 189 2 (x0 :: some (.int v) :: L) (.int v :: S) h := Rg rfl
set_option maxRecDepth 100000 in
theorem e189_2 {L : Lo} {h : Hp} {a1 : Int32} {a0 : Nat} (hO : isO h a0 9 = true) : Run 189 2 L [.int a1, .ref a0] h = (Run 127 0 [some (.ref a0), some (.int a1)] [] h).bind fun o => aft 189 2 5 L [] o := Rcv (c := 127) (As := [.int a1]) (S' := []) (pc' := 5) 9 rfl hO
set_option maxRecDepth 100000 in
theorem e189_5 {L : Lo} {S : List Value} {h : Hp} {x : Int32} : Run 189 5 L (.int x :: S) h = if x = 0 then Run 189 8 L S h else Run 189 10 L S h := RbrN (c := cnd .ne x 0 = true) (off := 5) rfl rfl cnd_ne
set_option maxRecDepth 100000 in
theorem e189_8 {L : Lo} {S : List Value} {h : Hp} : Run 189 8 L S h = Run 189 9 L (.int 0 :: S) h := Rg rfl
set_option maxRecDepth 100000 in
theorem e189_9 {L : Lo} {h : Hp} {x : Int32} : Run 189 9 L [.int x] h = some (.inl (some (.int x)), h) := Rd (if_pos (c := narrow .int (.int x) = .int x) rfl)
set_option maxRecDepth 100000 in
theorem e189_10 {L : Lo} {S : List Value} {h : Hp} {v : Nat} : Run 189 10 (some (.ref v) :: L) S h = Run 189 11 (some (.ref v) :: L) (.ref v :: S) h := Rg rfl
set_option maxRecDepth 100000 in
theorem e189_11 {L : Lo} {S : List Value} {h : Hp} {x0 : Option Value} {v : Int32} : Run 189 11 (x0 :: some (.int v) :: L) S h = Run 189 12 (x0 :: some (.int v) :: L) (.int v :: S) h := Rg rfl
set_option maxRecDepth 100000 in
theorem e189_12 {L : Lo} {h : Hp} {a1 : Int32} {a0 : Nat} (hO : isO h a0 9 = true) : Run 189 12 L [.int a1, .ref a0] h = (Run 187 0 [some (.ref a0), some (.int a1), none, none, none] [] h).bind fun o => aft 189 12 15 L [] o := Rcv (c := 187) (As := [.int a1]) (S' := []) (pc' := 15) 9 rfl hO
set_option maxRecDepth 100000 in
theorem e189_15 {L : Lo} {S : List Value} {h : Hp} : Run 189 15 L S h = Run 189 16 L (.int 0 :: S) h := Rg rfl
set_option maxRecDepth 100000 in
theorem e189_16 {L : Lo} {S : List Value} {h : Hp} {x0 x1 : Option Value} {y : Option Value} {v : Int32} : Run 189 16 (x0 :: x1 :: y :: L) (.int v :: S) h = Run 189 17 (x0 :: ck x1 :: some (.int v) :: L) S h := Rg rfl
set_option maxRecDepth 100000 in
theorem e189_17 {L : Lo} {S : List Value} {h : Hp} : Run 189 17 L S h = Run 189 18 L (.int 0 :: S) h := Rg rfl
set_option maxRecDepth 100000 in
theorem e189_18 {L : Lo} {S : List Value} {h : Hp} {x0 x1 x2 : Option Value} {y : Option Value} {v : Int32} : Run 189 18 (x0 :: x1 :: x2 :: y :: L) (.int v :: S) h = Run 189 19 (x0 :: x1 :: ck x2 :: some (.int v) :: L) S h := Rg rfl
set_option maxRecDepth 100000 in
theorem e189_19 {L : Lo} {S : List Value} {h : Hp} {x0 x1 x2 : Option Value} {v : Int32} : Run 189 19 (x0 :: x1 :: x2 :: some (.int v) :: L) S h = Run 189 20 (x0 :: x1 :: x2 :: some (.int v) :: L) (.int v :: S) h := Rg rfl
set_option maxRecDepth 100000 in
theorem e189_20 {L : Lo} {S : List Value} {h : Hp} {v : Nat} : Run 189 20 (some (.ref v) :: L) S h = Run 189 21 (some (.ref v) :: L) (.ref v :: S) h := Rg rfl
set_option maxRecDepth 100000 in
theorem e189_21 {L : Lo} {h : Hp} {a1 : Nat} {a0 : Int32} (hO : isO h a1 9 = true) : Run 189 21 L [.ref a1, .int a0] h = (Run 122 0 [some (.ref a1)] [] h).bind fun o => aft 189 21 24 L [.int a0] o := Rcv (c := 122) (As := []) (S' := [.int a0]) (pc' := 24) 9 rfl hO
set_option maxRecDepth 100000 in
theorem e189_24 {L : Lo} {S : List Value} {h : Hp} {x z : Int32} : Run 189 24 L (.int z :: .int x :: S) h = if z ≤ x then Run 189 50 L S h else Run 189 27 L S h := Rbr (c := cnd .ge x z = true) (off := 26) rfl rfl cnd_ge
set_option maxRecDepth 100000 in
theorem e189_27 {L : Lo} {S : List Value} {h : Hp} {x0 x1 : Option Value} {v : Int32} : Run 189 27 (x0 :: x1 :: some (.int v) :: L) S h = Run 189 28 (x0 :: x1 :: some (.int v) :: L) (.int v :: S) h := Rg rfl
set_option maxRecDepth 100000 in
theorem e189_28 {L : Lo} {S : List Value} {h : Hp} {v : Nat} : Run 189 28 (some (.ref v) :: L) S h = Run 189 29 (some (.ref v) :: L) (.ref v :: S) h := Rg rfl
set_option maxRecDepth 100000 in
theorem e189_29 {L : Lo} {S : List Value} {h : Hp} {x0 x1 x2 : Option Value} {v : Int32} : Run 189 29 (x0 :: x1 :: x2 :: some (.int v) :: L) S h = Run 189 30 (x0 :: x1 :: x2 :: some (.int v) :: L) (.int v :: S) h := Rg rfl
set_option maxRecDepth 100000 in
theorem e189_30 {L : Lo} {h : Hp} {a2 : Int32} {a1 : Nat} {a0 : Int32} (hO : isO h a1 9 = true) : Run 189 30 L [.int a2, .ref a1, .int a0] h = (Run 188 0 [some (.ref a1), some (.int a2), none, none] [] h).bind fun o => aft 189 30 33 L [.int a0] o := Rcv (c := 188) (As := [.int a2]) (S' := [.int a0]) (pc' := 33) 9 rfl hO
set_option maxRecDepth 100000 in
theorem e189_33 {L : Lo} {S : List Value} {h : Hp} : Run 189 33 L S h = Run 189 34 L (.int (-1) :: S) h := Rg rfl
set_option maxRecDepth 100000 in
theorem e189_34 {L : Lo} {S : List Value} {h : Hp} {x z : Int32} : Run 189 34 L (.int z :: .int x :: S) h = if x = z then Run 189 41 L S h else Run 189 37 L S h := Rbr (c := cnd .eq x z = true) (off := 7) rfl rfl cnd_eq
set_option maxRecDepth 100000 in
theorem e189_37 {L : Lo} {S : List Value} {h : Hp} : Run 189 37 L S h = Run 189 38 L (.int 1 :: S) h := Rg rfl
set_option maxRecDepth 100000 in
theorem e189_38 {L : Lo} {S : List Value} {h : Hp} : Run 189 38 L S h = Run 189 42 L S h := Rg rfl
set_option maxRecDepth 100000 in
theorem e189_41 {L : Lo} {S : List Value} {h : Hp} : Run 189 41 L S h = Run 189 42 L (.int 0 :: S) h := Rg rfl
set_option maxRecDepth 100000 in
theorem e189_42 {L : Lo} {S : List Value} {h : Hp} {x z : Int32} : Run 189 42 L (.int z :: .int x :: S) h = Run 189 43 L (.int (x + z) :: S) h := Rg rfl
set_option maxRecDepth 100000 in
theorem e189_43 {L : Lo} {S : List Value} {h : Hp} {x0 x1 : Option Value} {y : Option Value} {v : Int32} : Run 189 43 (x0 :: x1 :: y :: L) (.int v :: S) h = Run 189 44 (x0 :: ck x1 :: some (.int v) :: L) S h := Rg rfl
set_option maxRecDepth 100000 in
theorem e189_44 {L : Lo} {S : List Value} {h : Hp} {x0 x1 x2 : Option Value} {v : Int32} : Run 189 44 (x0 :: x1 :: x2 :: some (.int v) :: L) S h = Run 189 47 (x0 :: x1 :: x2 :: some (.int (v + 1)) :: L) S h := Rg rfl
set_option maxRecDepth 100000 in
theorem e189_47 {L : Lo} {S : List Value} {h : Hp} : Run 189 47 L S h = Run 189 19 L S h := Rg rfl
set_option maxRecDepth 100000 in
theorem e189_50 {L : Lo} {S : List Value} {h : Hp} {x0 x1 : Option Value} {v : Int32} : Run 189 50 (x0 :: x1 :: some (.int v) :: L) S h = Run 189 51 (x0 :: x1 :: some (.int v) :: L) (.int v :: S) h := Rg rfl
set_option maxRecDepth 100000 in
theorem e189_51 {L : Lo} {h : Hp} {x : Int32} : Run 189 51 L [.int x] h = some (.inl (some (.int x)), h) := Rd (if_pos (c := narrow .int (.int x) = .int x) rfl)
set_option maxRecDepth 100000 in
theorem e190_0 {L : Lo} {S : List Value} {h : Hp} {v : Nat} : Run 190 0 (some (.ref v) :: L) S h = Run 190 1 (some (.ref v) :: L) (.ref v :: S) h := Rg rfl
set_option maxRecDepth 100000 in
theorem e190_1 {L : Lo} {S : List Value} {h : Hp} {v : Nat} : Run 190 1 (some (.ref v) :: L) S h = Run 190 2 (some (.ref v) :: L) (.ref v :: S) h := Rg rfl
set_option maxRecDepth 100000 in
theorem e190_2 {L : Lo} {S : List Value} {h : Hp} {x0 : Option Value} {v : Int32} : Run 190 2 (x0 :: some (.int v) :: L) S h = Run 190 3 (x0 :: some (.int v) :: L) (.int v :: S) h := Rg rfl
set_option maxRecDepth 100000 in
theorem e190_3 {L : Lo} {h : Hp} {a2 : Int32} {a1 : Nat} {a0 : Nat} (hO : isO h a1 9 = true) : Run 190 3 L [.int a2, .ref a1, .ref a0] h = (Run 124 0 [some (.ref a1), some (.int a2)] [] h).bind fun o => aft 190 3 6 L [.ref a0] o := Rcv (c := 124) (As := [.int a2]) (S' := [.ref a0]) (pc' := 6) 9 rfl hO
set_option maxRecDepth 100000 in
theorem e190_6 {L : Lo} {S : List Value} {h : Hp} {x : Int32} : Run 190 6 L (.int x :: S) h = if x = 0 then Run 190 13 L S h else Run 190 9 L S h := Rbr (c := cnd .eq x 0 = true) (off := 7) rfl rfl cnd_eq
set_option maxRecDepth 100000 in
theorem e190_9 {L : Lo} {S : List Value} {h : Hp} : Run 190 9 L S h = Run 190 10 L (.int 0 :: S) h := Rg rfl
set_option maxRecDepth 100000 in
theorem e190_10 {L : Lo} {S : List Value} {h : Hp} : Run 190 10 L S h = Run 190 14 L S h := Rg rfl
set_option maxRecDepth 100000 in
theorem e190_13 {L : Lo} {S : List Value} {h : Hp} : Run 190 13 L S h = Run 190 14 L (.int 1 :: S) h := Rg rfl
set_option maxRecDepth 100000 in
theorem e190_14 {L : Lo} {S : List Value} {h : Hp} {b : Nat} {v : Value} : Run 190 14 L (v :: .ref b :: S) h = (pf h 9 5 b v).bind fun h1 => Run 190 17 L S h1 := Rb rfl fun _ => rfl
set_option maxRecDepth 100000 in
theorem e190_17 {L : Lo} {S : List Value} {h : Hp} {v : Nat} : Run 190 17 (some (.ref v) :: L) S h = Run 190 18 (some (.ref v) :: L) (.ref v :: S) h := Rg rfl
set_option maxRecDepth 100000 in
theorem e190_18 {L : Lo} {S : List Value} {h : Hp} {b : Nat} : Run 190 18 L (.ref b :: S) h = (gf h 9 5 b).bind fun v => Run 190 21 L (v :: S) h := Rb rfl fun _ => rfl
set_option maxRecDepth 100000 in
theorem e190_21 {L : Lo} {S : List Value} {h : Hp} {x : Int32} : Run 190 21 L (.int x :: S) h = if x = 0 then Run 190 28 L S h else Run 190 24 L S h := Rbr (c := cnd .eq x 0 = true) (off := 7) rfl rfl cnd_eq
set_option maxRecDepth 100000 in
theorem e190_24 {L : Lo} {S : List Value} {h : Hp} : Run 190 24 L S h = Run 190 25 L (.int 0 :: S) h := Rg rfl
set_option maxRecDepth 100000 in
theorem e190_25 {L : Lo} {S : List Value} {h : Hp} : Run 190 25 L S h = Run 190 33 L S h := Rg rfl
set_option maxRecDepth 100000 in
theorem e190_28 {L : Lo} {S : List Value} {h : Hp} {v : Nat} : Run 190 28 (some (.ref v) :: L) S h = Run 190 29 (some (.ref v) :: L) (.ref v :: S) h := Rg rfl
set_option maxRecDepth 100000 in
theorem e190_29 {L : Lo} {S : List Value} {h : Hp} {x0 : Option Value} {v : Int32} : Run 190 29 (x0 :: some (.int v) :: L) S h = Run 190 30 (x0 :: some (.int v) :: L) (.int v :: S) h := Rg rfl
set_option maxRecDepth 100000 in
theorem e190_30 {L : Lo} {h : Hp} {a1 : Int32} {a0 : Nat} (hO : isO h a0 9 = true) : Run 190 30 L [.int a1, .ref a0] h = (Run 189 0 [some (.ref a0), some (.int a1), none, none] [] h).bind fun o => aft 190 30 33 L [] o := Rcv (c := 189) (As := [.int a1]) (S' := []) (pc' := 33) 9 rfl hO
set_option maxRecDepth 100000 in
theorem e190_33 {L : Lo} {h : Hp} {x : Int32} : Run 190 33 L [.int x] h = some (.inl (some (.int x)), h) := Rd (if_pos (c := narrow .int (.int x) = .int x) rfl)
set_option maxRecDepth 100000 in
theorem e191_0 {L : Lo} {S : List Value} {h : Hp} {v : Nat} : Run 191 0 (some (.ref v) :: L) S h = Run 191 1 (some (.ref v) :: L) (.ref v :: S) h := Rg rfl
set_option maxRecDepth 100000 in
theorem e191_1 {L : Lo} {S : List Value} {h : Hp} {v : Nat} : Run 191 1 (some (.ref v) :: L) S h = Run 191 2 (some (.ref v) :: L) (.ref v :: S) h := Rg rfl
set_option maxRecDepth 100000 in
theorem e191_2 {L : Lo} {S : List Value} {h : Hp} {x0 : Option Value} {v : Int32} : Run 191 2 (x0 :: some (.int v) :: L) S h = Run 191 3 (x0 :: some (.int v) :: L) (.int v :: S) h := Rg rfl
set_option maxRecDepth 100000 in
theorem e191_3 {L : Lo} {h : Hp} {a2 : Int32} {a1 : Nat} {a0 : Nat} (hO : isO h a1 9 = true) : Run 191 3 L [.int a2, .ref a1, .ref a0] h = (Run 124 0 [some (.ref a1), some (.int a2)] [] h).bind fun o => aft 191 3 6 L [.ref a0] o := Rcv (c := 124) (As := [.int a2]) (S' := [.ref a0]) (pc' := 6) 9 rfl hO
set_option maxRecDepth 100000 in
theorem e191_6 {L : Lo} {S : List Value} {h : Hp} {x : Int32} : Run 191 6 L (.int x :: S) h = if x = 0 then Run 191 21 L S h else Run 191 9 L S h := Rbr (c := cnd .eq x 0 = true) (off := 15) rfl rfl cnd_eq
set_option maxRecDepth 100000 in
theorem e191_9 {L : Lo} {S : List Value} {h : Hp} {v : Nat} : Run 191 9 (some (.ref v) :: L) S h = Run 191 10 (some (.ref v) :: L) (.ref v :: S) h := Rg rfl
set_option maxRecDepth 100000 in
theorem e191_10 {L : Lo} {S : List Value} {h : Hp} {x0 x1 : Option Value} {v : Int32} : Run 191 10 (x0 :: x1 :: some (.int v) :: L) S h = Run 191 11 (x0 :: x1 :: some (.int v) :: L) (.int v :: S) h := Rg rfl
set_option maxRecDepth 100000 in
theorem e191_11 {L : Lo} {h : Hp} {a2 : Int32} {a1 : Nat} {a0 : Nat} (hO : isO h a1 9 = true) : Run 191 11 L [.int a2, .ref a1, .ref a0] h = (Run 123 0 [some (.ref a1), some (.int a2)] [] h).bind fun o => aft 191 11 14 L [.ref a0] o := Rcv (c := 123) (As := [.int a2]) (S' := [.ref a0]) (pc' := 14) 9 rfl hO
set_option maxRecDepth 100000 in
theorem e191_14 {L : Lo} {S : List Value} {h : Hp} {x : Int32} : Run 191 14 L (.int x :: S) h = if x = 0 then Run 191 21 L S h else Run 191 17 L S h := Rbr (c := cnd .eq x 0 = true) (off := 7) rfl rfl cnd_eq
set_option maxRecDepth 100000 in
theorem e191_17 {L : Lo} {S : List Value} {h : Hp} : Run 191 17 L S h = Run 191 18 L (.int 0 :: S) h := Rg rfl
set_option maxRecDepth 100000 in
theorem e191_18 {L : Lo} {S : List Value} {h : Hp} : Run 191 18 L S h = Run 191 22 L S h := Rg rfl
set_option maxRecDepth 100000 in
theorem e191_21 {L : Lo} {S : List Value} {h : Hp} : Run 191 21 L S h = Run 191 22 L (.int 1 :: S) h := Rg rfl
set_option maxRecDepth 100000 in
theorem e191_22 {L : Lo} {S : List Value} {h : Hp} {b : Nat} {v : Value} : Run 191 22 L (v :: .ref b :: S) h = (pf h 9 5 b v).bind fun h1 => Run 191 25 L S h1 := Rb rfl fun _ => rfl
set_option maxRecDepth 100000 in
theorem e191_25 {L : Lo} {S : List Value} {h : Hp} {v : Nat} : Run 191 25 (some (.ref v) :: L) S h = Run 191 26 (some (.ref v) :: L) (.ref v :: S) h := Rg rfl
set_option maxRecDepth 100000 in
theorem e191_26 {L : Lo} {S : List Value} {h : Hp} {b : Nat} : Run 191 26 L (.ref b :: S) h = (gf h 9 5 b).bind fun v => Run 191 29 L (v :: S) h := Rb rfl fun _ => rfl
set_option maxRecDepth 100000 in
theorem e191_29 {L : Lo} {S : List Value} {h : Hp} {x : Int32} : Run 191 29 L (.int x :: S) h = if x = 0 then Run 191 32 L S h else Run 191 40 L S h := RbrN (c := cnd .ne x 0 = true) (off := 11) rfl rfl cnd_ne
set_option maxRecDepth 100000 in
theorem e191_32 {L : Lo} {S : List Value} {h : Hp} {v : Nat} : Run 191 32 (some (.ref v) :: L) S h = Run 191 33 (some (.ref v) :: L) (.ref v :: S) h := Rg rfl
set_option maxRecDepth 100000 in
theorem e191_33 {L : Lo} {S : List Value} {h : Hp} {x0 : Option Value} {v : Int32} : Run 191 33 (x0 :: some (.int v) :: L) S h = Run 191 34 (x0 :: some (.int v) :: L) (.int v :: S) h := Rg rfl
set_option maxRecDepth 100000 in
theorem e191_34 {L : Lo} {h : Hp} {a1 : Int32} {a0 : Nat} (hO : isO h a0 9 = true) : Run 191 34 L [.int a1, .ref a0] h = (Run 127 0 [some (.ref a0), some (.int a1)] [] h).bind fun o => aft 191 34 37 L [] o := Rcv (c := 127) (As := [.int a1]) (S' := []) (pc' := 37) 9 rfl hO
set_option maxRecDepth 100000 in
theorem e191_37 {L : Lo} {S : List Value} {h : Hp} {x : Int32} : Run 191 37 L (.int x :: S) h = if x = 0 then Run 191 40 L S h else Run 191 53 L S h := RbrN (c := cnd .ne x 0 = true) (off := 16) rfl rfl cnd_ne
set_option maxRecDepth 100000 in
theorem e191_40 {L : Lo} {S : List Value} {h : Hp} {v : Nat} : Run 191 40 (some (.ref v) :: L) S h = Run 191 41 (some (.ref v) :: L) (.ref v :: S) h := Rg rfl
set_option maxRecDepth 100000 in
theorem e191_41 {L : Lo} {S : List Value} {h : Hp} {b : Nat} : Run 191 41 L (.ref b :: S) h = (gf h 9 5 b).bind fun v => Run 191 44 L (v :: S) h := Rb rfl fun _ => rfl
set_option maxRecDepth 100000 in
theorem e191_44 {L : Lo} {S : List Value} {h : Hp} {x : Int32} : Run 191 44 L (.int x :: S) h = if x = 0 then Run 191 51 L S h else Run 191 47 L S h := Rbr (c := cnd .eq x 0 = true) (off := 7) rfl rfl cnd_eq
set_option maxRecDepth 100000 in
theorem e191_47 {L : Lo} {S : List Value} {h : Hp} : Run 191 47 L S h = Run 191 48 L (.int 0 :: S) h := Rg rfl
set_option maxRecDepth 100000 in
theorem e191_48 {L : Lo} {S : List Value} {h : Hp} : Run 191 48 L S h = Run 191 52 L S h := Rg rfl
set_option maxRecDepth 100000 in
theorem e191_51 {L : Lo} {S : List Value} {h : Hp} : Run 191 51 L S h = Run 191 52 L (.int (-1) :: S) h := Rg rfl
set_option maxRecDepth 100000 in
theorem e191_52 {L : Lo} {h : Hp} {x : Int32} : Run 191 52 L [.int x] h = some (.inl (some (.int x)), h) := Rd (if_pos (c := narrow .int (.int x) = .int x) rfl)
set_option maxRecDepth 100000 in
theorem e191_53 {L : Lo} {S : List Value} {h : Hp} {v : Nat} : Run 191 53 (some (.ref v) :: L) S h = Run 191 54 (some (.ref v) :: L) (.ref v :: S) h := Rg rfl
set_option maxRecDepth 100000 in
theorem e191_54 {L : Lo} {S : List Value} {h : Hp} {x0 : Option Value} {v : Int32} : Run 191 54 (x0 :: some (.int v) :: L) S h = Run 191 55 (x0 :: some (.int v) :: L) (.int v :: S) h := Rg rfl
set_option maxRecDepth 100000 in
theorem e191_55 {L : Lo} {h : Hp} {a1 : Int32} {a0 : Nat} (hO : isO h a0 9 = true) : Run 191 55 L [.int a1, .ref a0] h = (Run 187 0 [some (.ref a0), some (.int a1), none, none, none] [] h).bind fun o => aft 191 55 58 L [] o := Rcv (c := 187) (As := [.int a1]) (S' := []) (pc' := 58) 9 rfl hO
set_option maxRecDepth 100000 in
theorem e191_58 {L : Lo} {S : List Value} {h : Hp} {v : Nat} : Run 191 58 (some (.ref v) :: L) S h = Run 191 59 (some (.ref v) :: L) (.ref v :: S) h := Rg rfl
set_option maxRecDepth 100000 in
theorem e191_59 {L : Lo} {S : List Value} {h : Hp} {x0 x1 : Option Value} {v : Int32} : Run 191 59 (x0 :: x1 :: some (.int v) :: L) S h = Run 191 60 (x0 :: x1 :: some (.int v) :: L) (.int v :: S) h := Rg rfl
set_option maxRecDepth 100000 in
theorem e191_60 {L : Lo} {h : Hp} {a1 : Int32} {a0 : Nat} (hO : isO h a0 9 = true) : Run 191 60 L [.int a1, .ref a0] h = (Run 188 0 [some (.ref a0), some (.int a1), none, none] [] h).bind fun o => aft 191 60 63 L [] o := Rcv (c := 188) (As := [.int a1]) (S' := []) (pc' := 63) 9 rfl hO
set_option maxRecDepth 100000 in
theorem e191_63 {L : Lo} {h : Hp} {x : Int32} : Run 191 63 L [.int x] h = some (.inl (some (.int x)), h) := Rd (if_pos (c := narrow .int (.int x) = .int x) rfl)
set_option maxRecDepth 100000 in
theorem e192_0 {L : Lo} {S : List Value} {h : Hp} {v : Nat} : Run 192 0 (some (.ref v) :: L) S h = Run 192 1 (some (.ref v) :: L) (.ref v :: S) h := Rg rfl
set_option maxRecDepth 100000 in
theorem e192_1 {L : Lo} {S : List Value} {h : Hp} {v : Nat} : Run 192 1 (some (.ref v) :: L) S h = Run 192 2 (some (.ref v) :: L) (.ref v :: S) h := Rg rfl
set_option maxRecDepth 100000 in
theorem e192_2 {L : Lo} {S : List Value} {h : Hp} {x0 : Option Value} {v : Int32} : Run 192 2 (x0 :: some (.int v) :: L) S h = Run 192 3 (x0 :: some (.int v) :: L) (.int v :: S) h := Rg rfl
set_option maxRecDepth 100000 in
theorem e192_3 {L : Lo} {h : Hp} {a2 : Int32} {a1 : Nat} {a0 : Nat} (hO : isO h a1 9 = true) : Run 192 3 L [.int a2, .ref a1, .ref a0] h = (Run 124 0 [some (.ref a1), some (.int a2)] [] h).bind fun o => aft 192 3 6 L [.ref a0] o := Rcv (c := 124) (As := [.int a2]) (S' := [.ref a0]) (pc' := 6) 9 rfl hO
set_option maxRecDepth 100000 in
theorem e192_6 {L : Lo} {S : List Value} {h : Hp} {x : Int32} : Run 192 6 L (.int x :: S) h = if x = 0 then Run 192 13 L S h else Run 192 9 L S h := Rbr (c := cnd .eq x 0 = true) (off := 7) rfl rfl cnd_eq
set_option maxRecDepth 100000 in
theorem e192_9 {L : Lo} {S : List Value} {h : Hp} : Run 192 9 L S h = Run 192 10 L (.int 0 :: S) h := Rg rfl
set_option maxRecDepth 100000 in
theorem e192_10 {L : Lo} {S : List Value} {h : Hp} : Run 192 10 L S h = Run 192 14 L S h := Rg rfl
set_option maxRecDepth 100000 in
theorem e192_13 {L : Lo} {S : List Value} {h : Hp} : Run 192 13 L S h = Run 192 14 L (.int 1 :: S) h := Rg rfl
set_option maxRecDepth 100000 in
theorem e192_14 {L : Lo} {S : List Value} {h : Hp} {b : Nat} {v : Value} : Run 192 14 L (v :: .ref b :: S) h = (pf h 9 5 b v).bind fun h1 => Run 192 17 L S h1 := Rb rfl fun _ => rfl
set_option maxRecDepth 100000 in
theorem e192_17 {L : Lo} {S : List Value} {h : Hp} {v : Nat} : Run 192 17 (some (.ref v) :: L) S h = Run 192 18 (some (.ref v) :: L) (.ref v :: S) h := Rg rfl
set_option maxRecDepth 100000 in
theorem e192_18 {L : Lo} {S : List Value} {h : Hp} {b : Nat} : Run 192 18 L (.ref b :: S) h = (gf h 9 5 b).bind fun v => Run 192 21 L (v :: S) h := Rb rfl fun _ => rfl
set_option maxRecDepth 100000 in
theorem e192_21 {L : Lo} {S : List Value} {h : Hp} {x : Int32} : Run 192 21 L (.int x :: S) h = if x = 0 then Run 192 26 L S h else Run 192 24 L S h := Rbr (c := cnd .eq x 0 = true) (off := 5) rfl rfl cnd_eq
set_option maxRecDepth 100000 in
theorem e192_24 {L : Lo} {S : List Value} {h : Hp} : Run 192 24 L S h = Run 192 25 L (.int 0 :: S) h := Rg rfl
set_option maxRecDepth 100000 in
theorem e192_25 {L : Lo} {h : Hp} {x : Int32} : Run 192 25 L [.int x] h = some (.inl (some (.int x)), h) := Rd (if_pos (c := narrow .int (.int x) = .int x) rfl)
set_option maxRecDepth 100000 in
theorem e192_26 {L : Lo} {S : List Value} {h : Hp} : Run 192 26 L S h = Run 192 27 L (.int (-1) :: S) h := Rg rfl
set_option maxRecDepth 100000 in
theorem e192_27 {L : Lo} {S : List Value} {h : Hp} {x0 x1 : Option Value} {y : Option Value} {v : Int32} : Run 192 27 (x0 :: x1 :: y :: L) (.int v :: S) h = Run 192 28 (x0 :: ck x1 :: some (.int v) :: L) S h := Rg rfl
set_option maxRecDepth 100000 in
theorem e192_28 {L : Lo} {S : List Value} {h : Hp} : Run 192 28 L S h = Run 192 29 L (.int 0 :: S) h := Rg rfl
set_option maxRecDepth 100000 in
theorem e192_29 {L : Lo} {S : List Value} {h : Hp} {x0 x1 x2 : Option Value} {y : Option Value} {v : Int32} : Run 192 29 (x0 :: x1 :: x2 :: y :: L) (.int v :: S) h = Run 192 30 (x0 :: x1 :: ck x2 :: some (.int v) :: L) S h := Rg rfl
set_option maxRecDepth 100000 in
theorem e192_30 {L : Lo} {S : List Value} {h : Hp} : Run 192 30 L S h = Run 192 31 L (.int 0 :: S) h := Rg rfl
set_option maxRecDepth 100000 in
theorem e192_31 {L : Lo} {S : List Value} {h : Hp} {x0 x1 x2 x3 : Option Value} {y : Option Value} {v : Int32} : Run 192 31 (x0 :: x1 :: x2 :: x3 :: y :: L) (.int v :: S) h = Run 192 33 (x0 :: x1 :: x2 :: ck x3 :: some (.int v) :: L) S h := Rg rfl
set_option maxRecDepth 100000 in
theorem e192_33 {L : Lo} {S : List Value} {h : Hp} {x0 x1 x2 x3 : Option Value} {v : Int32} : Run 192 33 (x0 :: x1 :: x2 :: x3 :: some (.int v) :: L) S h = Run 192 35 (x0 :: x1 :: x2 :: x3 :: some (.int v) :: L) (.int v :: S) h := Rg rfl
set_option maxRecDepth 100000 in
theorem e192_35 {L : Lo} {S : List Value} {h : Hp} : Run 192 35 L S h = Run 192 36 L (.int 2 :: S) h := Rg rfl
set_option maxRecDepth 100000 in
theorem e192_36 {L : Lo} {S : List Value} {h : Hp} {v : Nat} : Run 192 36 (some (.ref v) :: L) S h = Run 192 37 (some (.ref v) :: L) (.ref v :: S) h := Rg rfl
set_option maxRecDepth 100000 in
theorem e192_37 {L : Lo} {S : List Value} {h : Hp} {b : Nat} : Run 192 37 L (.ref b :: S) h = (gf h 9 0 b).bind fun v => Run 192 40 L (v :: S) h := Rb rfl fun _ => rfl
set_option maxRecDepth 100000 in
theorem e192_40 {L : Lo} {S : List Value} {h : Hp} : Run 192 40 L S h = Run 192 41 L (.int 5 :: S) h := Rg rfl
set_option maxRecDepth 100000 in
theorem e192_41 {L : Lo} {S : List Value} {h : Hp} {i : Int32} {b : Nat} : Run 192 41 L (.int i :: .ref b :: S) h = (gaI h b i).bind fun v => Run 192 42 L (.int v :: S) h := Rb rfl fun _ => rfl
set_option maxRecDepth 100000 in
theorem e192_42 {L : Lo} {S : List Value} {h : Hp} {x z : Int32} : Run 192 42 L (.int z :: .int x :: S) h = Run 192 43 L (.int (x * z) :: S) h := Rg rfl
set_option maxRecDepth 100000 in
theorem e192_43 {L : Lo} {S : List Value} {h : Hp} {x z : Int32} : Run 192 43 L (.int z :: .int x :: S) h = if z ≤ x then Run 192 105 L S h else Run 192 46 L S h := Rbr (c := cnd .ge x z = true) (off := 62) rfl rfl cnd_ge
set_option maxRecDepth 100000 in
theorem e192_46 {L : Lo} {S : List Value} {h : Hp} {x0 x1 x2 x3 : Option Value} {v : Int32} : Run 192 46 (x0 :: x1 :: x2 :: x3 :: some (.int v) :: L) S h = Run 192 48 (x0 :: x1 :: x2 :: x3 :: some (.int v) :: L) (.int v :: S) h := Rg rfl
set_option maxRecDepth 100000 in
theorem e192_48 {L : Lo} {S : List Value} {h : Hp} : Run 192 48 L S h = Run 192 49 L (.int 2 :: S) h := Rg rfl
set_option maxRecDepth 100000 in
theorem e192_49 {L : Lo} {S : List Value} {h : Hp} {x z : Int32} (hz : ¬ z = 0) : Run 192 49 L (.int z :: .int x :: S) h = Run 192 50 L (.int (x / z) :: S) h := Rg (if_neg hz)
set_option maxRecDepth 100000 in
theorem e192_50 {L : Lo} {S : List Value} {h : Hp} {x0 : Option Value} {v : Int32} : Run 192 50 (x0 :: some (.int v) :: L) S h = Run 192 51 (x0 :: some (.int v) :: L) (.int v :: S) h := Rg rfl
set_option maxRecDepth 100000 in
theorem e192_51 {L : Lo} {S : List Value} {h : Hp} {x z : Int32} : Run 192 51 L (.int z :: .int x :: S) h = if x = z then Run 192 54 L S h else Run 192 58 L S h := RbrN (c := cnd .ne x z = true) (off := 7) rfl rfl cnd_ne
set_option maxRecDepth 100000 in
theorem e192_54 {L : Lo} {S : List Value} {h : Hp} : Run 192 54 L S h = Run 192 55 L (.int 0 :: S) h := Rg rfl
set_option maxRecDepth 100000 in
theorem e192_55 {L : Lo} {S : List Value} {h : Hp} : Run 192 55 L S h = Run 192 71 L S h := Rg rfl
set_option maxRecDepth 100000 in
theorem e192_58 {L : Lo} {S : List Value} {h : Hp} {v : Nat} : Run 192 58 (some (.ref v) :: L) S h = Run 192 59 (some (.ref v) :: L) (.ref v :: S) h := Rg rfl
set_option maxRecDepth 100000 in
theorem e192_59 {L : Lo} {S : List Value} {h : Hp} {x0 : Option Value} {v : Int32} : Run 192 59 (x0 :: some (.int v) :: L) S h = Run 192 60 (x0 :: some (.int v) :: L) (.int v :: S) h := Rg rfl
set_option maxRecDepth 100000 in
theorem e192_60 {L : Lo} {S : List Value} {h : Hp} {x0 x1 x2 x3 : Option Value} {v : Int32} : Run 192 60 (x0 :: x1 :: x2 :: x3 :: some (.int v) :: L) S h = Run 192 62 (x0 :: x1 :: x2 :: x3 :: some (.int v) :: L) (.int v :: S) h := Rg rfl
set_option maxRecDepth 100000 in
theorem e192_62 {L : Lo} {S : List Value} {h : Hp} : Run 192 62 L S h = Run 192 63 L (.int 2 :: S) h := Rg rfl
set_option maxRecDepth 100000 in
theorem e192_63 {L : Lo} {S : List Value} {h : Hp} {x z : Int32} (hz : ¬ z = 0) : Run 192 63 L (.int z :: .int x :: S) h = Run 192 64 L (.int (x - x / z * z) :: S) h := Rg (if_neg hz)
set_option maxRecDepth 100000 in
theorem e192_64 {L : Lo} {S : List Value} {h : Hp} {x0 x1 x2 x3 : Option Value} {v : Int32} : Run 192 64 (x0 :: x1 :: x2 :: x3 :: some (.int v) :: L) S h = Run 192 66 (x0 :: x1 :: x2 :: x3 :: some (.int v) :: L) (.int v :: S) h := Rg rfl
set_option maxRecDepth 100000 in
theorem e192_66 {L : Lo} {S : List Value} {h : Hp} : Run 192 66 L S h = Run 192 67 L (.int 2 :: S) h := Rg rfl
set_option maxRecDepth 100000 in
theorem e192_67 {L : Lo} {S : List Value} {h : Hp} {x z : Int32} (hz : ¬ z = 0) : Run 192 67 L (.int z :: .int x :: S) h = Run 192 68 L (.int (x / z) :: S) h := Rg (if_neg hz)
set_option maxRecDepth 100000 in
theorem e192_68 {L : Lo} {h : Hp} {a3 : Int32} {a2 : Int32} {a1 : Int32} {a0 : Nat} (hO : isO h a0 9 = true) : Run 192 68 L [.int a3, .int a2, .int a1, .ref a0] h = (Run 169 0 [some (.ref a0), some (.int a1), some (.int a2), some (.int a3), none, none, none] [] h).bind fun o => aft 192 68 71 L [] o := Rcv (c := 169) (As := [.int a1, .int a2, .int a3]) (S' := []) (pc' := 71) 9 rfl hO
set_option maxRecDepth 100000 in
theorem e192_71 {L : Lo} {S : List Value} {h : Hp} {x0 x1 x2 x3 x4 : Option Value} {y : Option Value} {v : Int32} : Run 192 71 (x0 :: x1 :: x2 :: x3 :: x4 :: y :: L) (.int v :: S) h = Run 192 73 (x0 :: x1 :: x2 :: x3 :: ck x4 :: some (.int v) :: L) S h := Rg rfl
set_option maxRecDepth 100000 in
theorem e192_73 {L : Lo} {S : List Value} {h : Hp} {x0 x1 x2 x3 x4 : Option Value} {v : Int32} : Run 192 73 (x0 :: x1 :: x2 :: x3 :: x4 :: some (.int v) :: L) S h = Run 192 75 (x0 :: x1 :: x2 :: x3 :: x4 :: some (.int v) :: L) (.int v :: S) h := Rg rfl
set_option maxRecDepth 100000 in
theorem e192_75 {L : Lo} {S : List Value} {h : Hp} {x0 x1 x2 : Option Value} {v : Int32} : Run 192 75 (x0 :: x1 :: x2 :: some (.int v) :: L) S h = Run 192 76 (x0 :: x1 :: x2 :: some (.int v) :: L) (.int v :: S) h := Rg rfl
set_option maxRecDepth 100000 in
theorem e192_76 {L : Lo} {S : List Value} {h : Hp} {x z : Int32} : Run 192 76 L (.int z :: .int x :: S) h = if x ≤ z then Run 192 84 L S h else Run 192 79 L S h := Rbr (c := cnd .le x z = true) (off := 8) rfl rfl cnd_le
set_option maxRecDepth 100000 in
theorem e192_79 {L : Lo} {S : List Value} {h : Hp} {x0 x1 x2 x3 : Option Value} {v : Int32} : Run 192 79 (x0 :: x1 :: x2 :: x3 :: some (.int v) :: L) S h = Run 192 81 (x0 :: x1 :: x2 :: x3 :: some (.int v) :: L) (.int v :: S) h := Rg rfl
set_option maxRecDepth 100000 in
theorem e192_81 {L : Lo} {S : List Value} {h : Hp} : Run 192 81 L S h = Run 192 85 L S h := Rg rfl
set_option maxRecDepth 100000 in
theorem e192_84 {L : Lo} {S : List Value} {h : Hp} {x0 x1 : Option Value} {v : Int32} : Run 192 84 (x0 :: x1 :: some (.int v) :: L) S h = Run 192 85 (x0 :: x1 :: some (.int v) :: L) (.int v :: S) h := Rg rfl
set_option maxRecDepth 100000 in
theorem e192_85 {L : Lo} {S : List Value} {h : Hp} {x0 x1 : Option Value} {y : Option Value} {v : Int32} : Run 192 85 (x0 :: x1 :: y :: L) (.int v :: S) h = Run 192 86 (x0 :: ck x1 :: some (.int v) :: L) S h := Rg rfl
set_option maxRecDepth 100000 in
theorem e192_86 {L : Lo} {S : List Value} {h : Hp} {x0 x1 x2 x3 x4 : Option Value} {v : Int32} : Run 192 86 (x0 :: x1 :: x2 :: x3 :: x4 :: some (.int v) :: L) S h = Run 192 88 (x0 :: x1 :: x2 :: x3 :: x4 :: some (.int v) :: L) (.int v :: S) h := Rg rfl
set_option maxRecDepth 100000 in
theorem e192_88 {L : Lo} {S : List Value} {h : Hp} {x0 x1 x2 : Option Value} {v : Int32} : Run 192 88 (x0 :: x1 :: x2 :: some (.int v) :: L) S h = Run 192 89 (x0 :: x1 :: x2 :: some (.int v) :: L) (.int v :: S) h := Rg rfl
set_option maxRecDepth 100000 in
theorem e192_89 {L : Lo} {S : List Value} {h : Hp} {x z : Int32} : Run 192 89 L (.int z :: .int x :: S) h = if x ≤ z then Run 192 97 L S h else Run 192 92 L S h := Rbr (c := cnd .le x z = true) (off := 8) rfl rfl cnd_le
set_option maxRecDepth 100000 in
theorem e192_92 {L : Lo} {S : List Value} {h : Hp} {x0 x1 x2 x3 x4 : Option Value} {v : Int32} : Run 192 92 (x0 :: x1 :: x2 :: x3 :: x4 :: some (.int v) :: L) S h = Run 192 94 (x0 :: x1 :: x2 :: x3 :: x4 :: some (.int v) :: L) (.int v :: S) h := Rg rfl
set_option maxRecDepth 100000 in
theorem e192_94 {L : Lo} {S : List Value} {h : Hp} : Run 192 94 L S h = Run 192 98 L S h := Rg rfl
set_option maxRecDepth 100000 in
theorem e192_97 {L : Lo} {S : List Value} {h : Hp} {x0 x1 x2 : Option Value} {v : Int32} : Run 192 97 (x0 :: x1 :: x2 :: some (.int v) :: L) S h = Run 192 98 (x0 :: x1 :: x2 :: some (.int v) :: L) (.int v :: S) h := Rg rfl
set_option maxRecDepth 100000 in
theorem e192_98 {L : Lo} {S : List Value} {h : Hp} {x0 x1 x2 : Option Value} {y : Option Value} {v : Int32} : Run 192 98 (x0 :: x1 :: x2 :: y :: L) (.int v :: S) h = Run 192 99 (x0 :: x1 :: ck x2 :: some (.int v) :: L) S h := Rg rfl
set_option maxRecDepth 100000 in
theorem e192_99 {L : Lo} {S : List Value} {h : Hp} {x0 x1 x2 x3 : Option Value} {v : Int32} : Run 192 99 (x0 :: x1 :: x2 :: x3 :: some (.int v) :: L) S h = Run 192 102 (x0 :: x1 :: x2 :: x3 :: some (.int (v + 1)) :: L) S h := Rg rfl
set_option maxRecDepth 100000 in
theorem e192_102 {L : Lo} {S : List Value} {h : Hp} : Run 192 102 L S h = Run 192 33 L S h := Rg rfl
set_option maxRecDepth 100000 in
theorem e192_105 {L : Lo} {S : List Value} {h : Hp} {x0 x1 : Option Value} {v : Int32} : Run 192 105 (x0 :: x1 :: some (.int v) :: L) S h = Run 192 106 (x0 :: x1 :: some (.int v) :: L) (.int v :: S) h := Rg rfl
set_option maxRecDepth 100000 in
theorem e192_106 {L : Lo} {h : Hp} {x : Int32} : Run 192 106 L [.int x] h = some (.inl (some (.int x)), h) := Rd (if_pos (c := narrow .int (.int x) = .int x) rfl)
set_option maxRecDepth 100000 in
theorem e193_0 {L : Lo} {S : List Value} {h : Hp} {v : Nat} : Run 193 0 (some (.ref v) :: L) S h = Run 193 1 (some (.ref v) :: L) (.ref v :: S) h := Rg rfl
set_option maxRecDepth 100000 in
theorem e193_1 {L : Lo} {S : List Value} {h : Hp} {v : Nat} : Run 193 1 (some (.ref v) :: L) S h = Run 193 2 (some (.ref v) :: L) (.ref v :: S) h := Rg rfl
set_option maxRecDepth 100000 in
theorem e193_2 {L : Lo} {S : List Value} {h : Hp} {x0 : Option Value} {v : Int32} : Run 193 2 (x0 :: some (.int v) :: L) S h = Run 193 3 (x0 :: some (.int v) :: L) (.int v :: S) h := Rg rfl
set_option maxRecDepth 100000 in
theorem e193_3 {L : Lo} {h : Hp} {a2 : Int32} {a1 : Nat} {a0 : Nat} (hO : isO h a1 9 = true) : Run 193 3 L [.int a2, .ref a1, .ref a0] h = (Run 124 0 [some (.ref a1), some (.int a2)] [] h).bind fun o => aft 193 3 6 L [.ref a0] o := Rcv (c := 124) (As := [.int a2]) (S' := [.ref a0]) (pc' := 6) 9 rfl hO
set_option maxRecDepth 100000 in
theorem e193_6 {L : Lo} {S : List Value} {h : Hp} {x : Int32} : Run 193 6 L (.int x :: S) h = if x = 0 then Run 193 13 L S h else Run 193 9 L S h := Rbr (c := cnd .eq x 0 = true) (off := 7) rfl rfl cnd_eq
set_option maxRecDepth 100000 in
theorem e193_9 {L : Lo} {S : List Value} {h : Hp} : Run 193 9 L S h = Run 193 10 L (.int 0 :: S) h := Rg rfl
set_option maxRecDepth 100000 in
theorem e193_10 {L : Lo} {S : List Value} {h : Hp} : Run 193 10 L S h = Run 193 14 L S h := Rg rfl
set_option maxRecDepth 100000 in
theorem e193_13 {L : Lo} {S : List Value} {h : Hp} : Run 193 13 L S h = Run 193 14 L (.int 1 :: S) h := Rg rfl
set_option maxRecDepth 100000 in
theorem e193_14 {L : Lo} {S : List Value} {h : Hp} {b : Nat} {v : Value} : Run 193 14 L (v :: .ref b :: S) h = (pf h 9 5 b v).bind fun h1 => Run 193 17 L S h1 := Rb rfl fun _ => rfl
set_option maxRecDepth 100000 in
theorem e193_17 {L : Lo} {S : List Value} {h : Hp} {v : Nat} : Run 193 17 (some (.ref v) :: L) S h = Run 193 18 (some (.ref v) :: L) (.ref v :: S) h := Rg rfl
set_option maxRecDepth 100000 in
theorem e193_18 {L : Lo} {S : List Value} {h : Hp} {b : Nat} : Run 193 18 L (.ref b :: S) h = (gf h 9 5 b).bind fun v => Run 193 21 L (v :: S) h := Rb rfl fun _ => rfl
set_option maxRecDepth 100000 in
theorem e193_21 {L : Lo} {S : List Value} {h : Hp} {x : Int32} : Run 193 21 L (.int x :: S) h = if x = 0 then Run 193 26 L S h else Run 193 24 L S h := Rbr (c := cnd .eq x 0 = true) (off := 5) rfl rfl cnd_eq
set_option maxRecDepth 100000 in
theorem e193_24 {L : Lo} {S : List Value} {h : Hp} : Run 193 24 L S h = Run 193 25 L (.int 0 :: S) h := Rg rfl
set_option maxRecDepth 100000 in
theorem e193_25 {L : Lo} {h : Hp} {x : Int32} : Run 193 25 L [.int x] h = some (.inl (some (.int x)), h) := Rd (if_pos (c := narrow .int (.int x) = .int x) rfl)
set_option maxRecDepth 100000 in
theorem e193_26 {L : Lo} {S : List Value} {h : Hp} : Run 193 26 L S h = Run 193 27 L (.int 0 :: S) h := Rg rfl
set_option maxRecDepth 100000 in
theorem e193_27 {L : Lo} {S : List Value} {h : Hp} {x0 x1 : Option Value} {y : Option Value} {v : Int32} : Run 193 27 (x0 :: x1 :: y :: L) (.int v :: S) h = Run 193 28 (x0 :: ck x1 :: some (.int v) :: L) S h := Rg rfl
set_option maxRecDepth 100000 in
theorem e193_28 {L : Lo} {S : List Value} {h : Hp} : Run 193 28 L S h = Run 193 29 L (.int 1 :: S) h := Rg rfl
set_option maxRecDepth 100000 in
theorem e193_29 {L : Lo} {S : List Value} {h : Hp} {x0 x1 x2 : Option Value} {y : Option Value} {v : Int32} : Run 193 29 (x0 :: x1 :: x2 :: y :: L) (.int v :: S) h = Run 193 30 (x0 :: x1 :: ck x2 :: some (.int v) :: L) S h := Rg rfl
set_option maxRecDepth 100000 in
theorem e193_30 {L : Lo} {S : List Value} {h : Hp} {x0 x1 x2 : Option Value} {v : Int32} : Run 193 30 (x0 :: x1 :: x2 :: some (.int v) :: L) S h = Run 193 31 (x0 :: x1 :: x2 :: some (.int v) :: L) (.int v :: S) h := Rg rfl
set_option maxRecDepth 100000 in
theorem e193_31 {L : Lo} {S : List Value} {h : Hp} : Run 193 31 L S h = Run 193 33 L (.int 6 :: S) h := Rg rfl
set_option maxRecDepth 100000 in
theorem e193_33 {L : Lo} {S : List Value} {h : Hp} {x z : Int32} : Run 193 33 L (.int z :: .int x :: S) h = if z ≤ x then Run 193 63 L S h else Run 193 36 L S h := Rbr (c := cnd .ge x z = true) (off := 30) rfl rfl cnd_ge
set_option maxRecDepth 100000 in
theorem e193_36 {L : Lo} {S : List Value} {h : Hp} {v : Nat} : Run 193 36 (some (.ref v) :: L) S h = Run 193 37 (some (.ref v) :: L) (.ref v :: S) h := Rg rfl
set_option maxRecDepth 100000 in
theorem e193_37 {L : Lo} {S : List Value} {h : Hp} {x0 : Option Value} {v : Int32} : Run 193 37 (x0 :: some (.int v) :: L) S h = Run 193 38 (x0 :: some (.int v) :: L) (.int v :: S) h := Rg rfl
set_option maxRecDepth 100000 in
theorem e193_38 {L : Lo} {S : List Value} {h : Hp} {x0 x1 x2 : Option Value} {v : Int32} : Run 193 38 (x0 :: x1 :: x2 :: some (.int v) :: L) S h = Run 193 39 (x0 :: x1 :: x2 :: some (.int v) :: L) (.int v :: S) h := Rg rfl
set_option maxRecDepth 100000 in
theorem e193_39 {L : Lo} {h : Hp} {a2 : Int32} {a1 : Int32} {a0 : Nat} (hO : isO h a0 9 = true) : Run 193 39 L [.int a2, .int a1, .ref a0] h = (Run 144 0 [some (.ref a0), some (.int a1), some (.int a2), none, none] [] h).bind fun o => aft 193 39 42 L [] o := Rcv (c := 144) (As := [.int a1, .int a2]) (S' := []) (pc' := 42) 9 rfl hO
set_option maxRecDepth 100000 in
theorem e193_42 {L : Lo} {S : List Value} {h : Hp} {v : Nat} : Run 193 42 (some (.ref v) :: L) S h = Run 193 43 (some (.ref v) :: L) (.ref v :: S) h := Rg rfl
set_option maxRecDepth 100000 in
theorem e193_43 {L : Lo} {S : List Value} {h : Hp} {x0 : Option Value} {v : Int32} : Run 193 43 (x0 :: some (.int v) :: L) S h = Run 193 44 (x0 :: some (.int v) :: L) (.int v :: S) h := Rg rfl
set_option maxRecDepth 100000 in
theorem e193_44 {L : Lo} {S : List Value} {h : Hp} {x0 x1 : Option Value} {v : Int32} : Run 193 44 (x0 :: x1 :: some (.int v) :: L) S h = Run 193 45 (x0 :: x1 :: some (.int v) :: L) (.int v :: S) h := Rg rfl
set_option maxRecDepth 100000 in
theorem e193_45 {L : Lo} {h : Hp} {a3 : Int32} {a2 : Int32} {a1 : Nat} {a0 : Int32} (hO : isO h a1 9 = true) : Run 193 45 L [.int a3, .int a2, .ref a1, .int a0] h = (Run 144 0 [some (.ref a1), some (.int a2), some (.int a3), none, none] [] h).bind fun o => aft 193 45 48 L [.int a0] o := Rcv (c := 144) (As := [.int a2, .int a3]) (S' := [.int a0]) (pc' := 48) 9 rfl hO
set_option maxRecDepth 100000 in
theorem e193_48 {L : Lo} {S : List Value} {h : Hp} {x z : Int32} : Run 193 48 L (.int z :: .int x :: S) h = if x ≤ z then Run 193 55 L S h else Run 193 51 L S h := Rbr (c := cnd .le x z = true) (off := 7) rfl rfl cnd_le
set_option maxRecDepth 100000 in
theorem e193_51 {L : Lo} {S : List Value} {h : Hp} {x0 x1 x2 : Option Value} {v : Int32} : Run 193 51 (x0 :: x1 :: x2 :: some (.int v) :: L) S h = Run 193 52 (x0 :: x1 :: x2 :: some (.int v) :: L) (.int v :: S) h := Rg rfl
set_option maxRecDepth 100000 in
theorem e193_52 {L : Lo} {S : List Value} {h : Hp} : Run 193 52 L S h = Run 193 56 L S h := Rg rfl
set_option maxRecDepth 100000 in
theorem e193_55 {L : Lo} {S : List Value} {h : Hp} {x0 x1 : Option Value} {v : Int32} : Run 193 55 (x0 :: x1 :: some (.int v) :: L) S h = Run 193 56 (x0 :: x1 :: some (.int v) :: L) (.int v :: S) h := Rg rfl
set_option maxRecDepth 100000 in
theorem e193_56 {L : Lo} {S : List Value} {h : Hp} {x0 x1 : Option Value} {y : Option Value} {v : Int32} : Run 193 56 (x0 :: x1 :: y :: L) (.int v :: S) h = Run 193 57 (x0 :: ck x1 :: some (.int v) :: L) S h := Rg rfl
set_option maxRecDepth 100000 in
theorem e193_57 {L : Lo} {S : List Value} {h : Hp} {x0 x1 x2 : Option Value} {v : Int32} : Run 193 57 (x0 :: x1 :: x2 :: some (.int v) :: L) S h = Run 193 60 (x0 :: x1 :: x2 :: some (.int (v + 1)) :: L) S h := Rg rfl
set_option maxRecDepth 100000 in
theorem e193_60 {L : Lo} {S : List Value} {h : Hp} : Run 193 60 L S h = Run 193 30 L S h := Rg rfl
set_option maxRecDepth 100000 in
theorem e193_63 {L : Lo} {S : List Value} {h : Hp} {x0 x1 : Option Value} {v : Int32} : Run 193 63 (x0 :: x1 :: some (.int v) :: L) S h = Run 193 64 (x0 :: x1 :: some (.int v) :: L) (.int v :: S) h := Rg rfl
set_option maxRecDepth 100000 in
theorem e193_64 {L : Lo} {h : Hp} {x : Int32} : Run 193 64 L [.int x] h = some (.inl (some (.int x)), h) := Rd (if_pos (c := narrow .int (.int x) = .int x) rfl)
set_option maxRecDepth 100000 in
theorem e194_0 {L : Lo} {S : List Value} {h : Hp} {v : Nat} : Run 194 0 (some (.ref v) :: L) S h = Run 194 1 (some (.ref v) :: L) (.ref v :: S) h := Rg rfl
set_option maxRecDepth 100000 in
theorem e194_1 {L : Lo} {S : List Value} {h : Hp} {x0 : Option Value} {v : Int32} : Run 194 1 (x0 :: some (.int v) :: L) S h = Run 194 2 (x0 :: some (.int v) :: L) (.int v :: S) h := Rg rfl
set_option maxRecDepth 100000 in
theorem e194_2 {L : Lo} {S : List Value} {h : Hp} : Run 194 2 L S h = Run 194 3 L (.int 0 :: S) h := Rg rfl
set_option maxRecDepth 100000 in
theorem e194_3 {L : Lo} {S : List Value} {h : Hp} : Run 194 3 L S h = Run 194 4 L (.int 1 :: S) h := Rg rfl
set_option maxRecDepth 100000 in
theorem e194_4 {L : Lo} {h : Hp} {a3 : Int32} {a2 : Int32} {a1 : Int32} {a0 : Nat} : Run 194 4 L [.int a3, .int a2, .int a1, .ref a0] h = (Run 118 0 [some (.int a1), some (.int a2), some (.int a3)] [] h).bind fun o => aft 194 4 7 L [.ref a0] o := Rc (c := 118) (As := [.int a1, .int a2, .int a3]) (S' := [.ref a0]) (pc' := 7) rfl
set_option maxRecDepth 100000 in
theorem e194_7 {L : Lo} {S : List Value} {h : Hp} {x : Int32} : Run 194 7 L (.int x :: S) h = if x = 0 then Run 194 14 L S h else Run 194 10 L S h := Rbr (c := cnd .eq x 0 = true) (off := 7) rfl rfl cnd_eq
set_option maxRecDepth 100000 in
theorem e194_10 {L : Lo} {S : List Value} {h : Hp} : Run 194 10 L S h = Run 194 11 L (.int 0 :: S) h := Rg rfl
set_option maxRecDepth 100000 in
theorem e194_11 {L : Lo} {S : List Value} {h : Hp} : Run 194 11 L S h = Run 194 15 L S h := Rg rfl
set_option maxRecDepth 100000 in
theorem e194_14 {L : Lo} {S : List Value} {h : Hp} : Run 194 14 L S h = Run 194 15 L (.int 1 :: S) h := Rg rfl
set_option maxRecDepth 100000 in
theorem e194_15 {L : Lo} {S : List Value} {h : Hp} {b : Nat} {v : Value} : Run 194 15 L (v :: .ref b :: S) h = (pf h 9 5 b v).bind fun h1 => Run 194 18 L S h1 := Rb rfl fun _ => rfl
set_option maxRecDepth 100000 in
theorem e194_18 {L : Lo} {S : List Value} {h : Hp} {v : Nat} : Run 194 18 (some (.ref v) :: L) S h = Run 194 19 (some (.ref v) :: L) (.ref v :: S) h := Rg rfl
set_option maxRecDepth 100000 in
theorem e194_19 {L : Lo} {S : List Value} {h : Hp} {b : Nat} : Run 194 19 L (.ref b :: S) h = (gf h 9 5 b).bind fun v => Run 194 22 L (v :: S) h := Rb rfl fun _ => rfl
set_option maxRecDepth 100000 in
theorem e194_22 {L : Lo} {S : List Value} {h : Hp} {x : Int32} : Run 194 22 L (.int x :: S) h = if x = 0 then Run 194 27 L S h else Run 194 25 L S h := Rbr (c := cnd .eq x 0 = true) (off := 5) rfl rfl cnd_eq
set_option maxRecDepth 100000 in
theorem e194_25 {L : Lo} {S : List Value} {h : Hp} : Run 194 25 L S h = Run 194 26 L (.double FP.dconst0 :: S) h := Rg rfl
set_option maxRecDepth 100000 in
theorem e194_26 {L : Lo} {h : Hp} {x : UInt64} : Run 194 26 L [.double x] h = some (.inl (some (.double x)), h) := Rd rfl
set_option maxRecDepth 100000 in
theorem e194_27 {L : Lo} {S : List Value} {h : Hp} : Run 194 27 L S h = Run 194 28 L (.int 0 :: S) h := Rg rfl
set_option maxRecDepth 100000 in
theorem e194_28 {L : Lo} {S : List Value} {h : Hp} {x0 x1 : Option Value} {y : Option Value} {v : Int32} : Run 194 28 (x0 :: x1 :: y :: L) (.int v :: S) h = Run 194 29 (x0 :: ck x1 :: some (.int v) :: L) S h := Rg rfl
set_option maxRecDepth 100000 in
theorem e194_29 {L : Lo} {S : List Value} {h : Hp} : Run 194 29 L S h = Run 194 30 L (.int 0 :: S) h := Rg rfl
set_option maxRecDepth 100000 in
theorem e194_30 {L : Lo} {S : List Value} {h : Hp} {x0 x1 x2 : Option Value} {y : Option Value} {v : Int32} : Run 194 30 (x0 :: x1 :: x2 :: y :: L) (.int v :: S) h = Run 194 31 (x0 :: x1 :: ck x2 :: some (.int v) :: L) S h := Rg rfl
set_option maxRecDepth 100000 in
theorem e194_31 {L : Lo} {S : List Value} {h : Hp} : Run 194 31 L S h = Run 194 32 L (.int 0 :: S) h := Rg rfl
set_option maxRecDepth 100000 in
theorem e194_32 {L : Lo} {S : List Value} {h : Hp} {x0 x1 x2 x3 : Option Value} {y : Option Value} {v : Int32} : Run 194 32 (x0 :: x1 :: x2 :: x3 :: y :: L) (.int v :: S) h = Run 194 34 (x0 :: x1 :: x2 :: ck x3 :: some (.int v) :: L) S h := Rg rfl
set_option maxRecDepth 100000 in
theorem e194_34 {L : Lo} {S : List Value} {h : Hp} {x0 x1 x2 x3 : Option Value} {v : Int32} : Run 194 34 (x0 :: x1 :: x2 :: x3 :: some (.int v) :: L) S h = Run 194 36 (x0 :: x1 :: x2 :: x3 :: some (.int v) :: L) (.int v :: S) h := Rg rfl
set_option maxRecDepth 100000 in
theorem e194_36 {L : Lo} {S : List Value} {h : Hp} {v : Nat} : Run 194 36 (some (.ref v) :: L) S h = Run 194 37 (some (.ref v) :: L) (.ref v :: S) h := Rg rfl
set_option maxRecDepth 100000 in
theorem e194_37 {L : Lo} {S : List Value} {h : Hp} {b : Nat} : Run 194 37 L (.ref b :: S) h = (gf h 9 0 b).bind fun v => Run 194 40 L (v :: S) h := Rb rfl fun _ => rfl
set_option maxRecDepth 100000 in
theorem e194_40 {L : Lo} {S : List Value} {h : Hp} : Run 194 40 L S h = Run 194 41 L (.int 5 :: S) h := Rg rfl
set_option maxRecDepth 100000 in
theorem e194_41 {L : Lo} {S : List Value} {h : Hp} {i : Int32} {b : Nat} : Run 194 41 L (.int i :: .ref b :: S) h = (gaI h b i).bind fun v => Run 194 42 L (.int v :: S) h := Rb rfl fun _ => rfl
set_option maxRecDepth 100000 in
theorem e194_42 {L : Lo} {S : List Value} {h : Hp} {x z : Int32} : Run 194 42 L (.int z :: .int x :: S) h = if z ≤ x then Run 194 107 L S h else Run 194 45 L S h := Rbr (c := cnd .ge x z = true) (off := 65) rfl rfl cnd_ge
set_option maxRecDepth 100000 in
theorem e194_45 {L : Lo} {S : List Value} {h : Hp} {v : Nat} : Run 194 45 (some (.ref v) :: L) S h = Run 194 46 (some (.ref v) :: L) (.ref v :: S) h := Rg rfl
set_option maxRecDepth 100000 in
theorem e194_46 {L : Lo} {S : List Value} {h : Hp} {x0 x1 x2 x3 : Option Value} {v : Int32} : Run 194 46 (x0 :: x1 :: x2 :: x3 :: some (.int v) :: L) S h = Run 194 48 (x0 :: x1 :: x2 :: x3 :: some (.int v) :: L) (.int v :: S) h := Rg rfl
set_option maxRecDepth 100000 in
theorem e194_48 {L : Lo} {h : Hp} {a1 : Int32} {a0 : Nat} (hO : isO h a0 9 = true) : Run 194 48 L [.int a1, .ref a0] h = (Run 127 0 [some (.ref a0), some (.int a1)] [] h).bind fun o => aft 194 48 51 L [] o := Rcv (c := 127) (As := [.int a1]) (S' := []) (pc' := 51) 9 rfl hO
set_option maxRecDepth 100000 in
theorem e194_51 {L : Lo} {S : List Value} {h : Hp} {x : Int32} : Run 194 51 L (.int x :: S) h = if x = 0 then Run 194 73 L S h else Run 194 54 L S h := Rbr (c := cnd .eq x 0 = true) (off := 22) rfl rfl cnd_eq
set_option maxRecDepth 100000 in
theorem e194_54 {L : Lo} {S : List Value} {h : Hp} {v : Nat} : Run 194 54 (some (.ref v) :: L) S h = Run 194 55 (some (.ref v) :: L) (.ref v :: S) h := Rg rfl
set_option maxRecDepth 100000 in
theorem e194_55 {L : Lo} {S : List Value} {h : Hp} {x0 x1 x2 x3 : Option Value} {v : Int32} : Run 194 55 (x0 :: x1 :: x2 :: x3 :: some (.int v) :: L) S h = Run 194 57 (x0 :: x1 :: x2 :: x3 :: some (.int v) :: L) (.int v :: S) h := Rg rfl
set_option maxRecDepth 100000 in
theorem e194_57 {L : Lo} {S : List Value} {h : Hp} : Run 194 57 L S h = Run 194 58 L (.int 3 :: S) h := Rg rfl
set_option maxRecDepth 100000 in
theorem e194_58 {L : Lo} {h : Hp} {a2 : Int32} {a1 : Int32} {a0 : Nat} (hO : isO h a0 9 = true) : Run 194 58 L [.int a2, .int a1, .ref a0] h = (Run 125 0 [some (.ref a0), some (.int a1), some (.int a2)] [] h).bind fun o => aft 194 58 61 L [] o := Rcv (c := 125) (As := [.int a1, .int a2]) (S' := []) (pc' := 61) 9 rfl hO
set_option maxRecDepth 100000 in
theorem e194_61 {L : Lo} {S : List Value} {h : Hp} {v : Nat} : Run 194 61 (some (.ref v) :: L) S h = Run 194 62 (some (.ref v) :: L) (.ref v :: S) h := Rg rfl
set_option maxRecDepth 100000 in
theorem e194_62 {L : Lo} {S : List Value} {h : Hp} {x0 x1 x2 x3 : Option Value} {v : Int32} : Run 194 62 (x0 :: x1 :: x2 :: x3 :: some (.int v) :: L) S h = Run 194 64 (x0 :: x1 :: x2 :: x3 :: some (.int v) :: L) (.int v :: S) h := Rg rfl
set_option maxRecDepth 100000 in
theorem e194_64 {L : Lo} {S : List Value} {h : Hp} : Run 194 64 L S h = Run 194 66 L (.int 7 :: S) h := Rg rfl
set_option maxRecDepth 100000 in
theorem e194_66 {L : Lo} {h : Hp} {a3 : Int32} {a2 : Int32} {a1 : Nat} {a0 : Int32} (hO : isO h a1 9 = true) : Run 194 66 L [.int a3, .int a2, .ref a1, .int a0] h = (Run 125 0 [some (.ref a1), some (.int a2), some (.int a3)] [] h).bind fun o => aft 194 66 69 L [.int a0] o := Rcv (c := 125) (As := [.int a2, .int a3]) (S' := [.int a0]) (pc' := 69) 9 rfl hO
set_option maxRecDepth 100000 in
theorem e194_69 {L : Lo} {S : List Value} {h : Hp} {x z : Int32} : Run 194 69 L (.int z :: .int x :: S) h = Run 194 70 L (.int (x + z) :: S) h := Rg rfl
set_option maxRecDepth 100000 in
theorem e194_70 {L : Lo} {S : List Value} {h : Hp} : Run 194 70 L S h = Run 194 74 L S h := Rg rfl
set_option maxRecDepth 100000 in
theorem e194_73 {L : Lo} {S : List Value} {h : Hp} : Run 194 73 L S h = Run 194 74 L (.int 0 :: S) h := Rg rfl
set_option maxRecDepth 100000 in
theorem e194_74 {L : Lo} {S : List Value} {h : Hp} {x0 x1 x2 x3 x4 : Option Value} {y : Option Value} {v : Int32} : Run 194 74 (x0 :: x1 :: x2 :: x3 :: x4 :: y :: L) (.int v :: S) h = Run 194 76 (x0 :: x1 :: x2 :: x3 :: ck x4 :: some (.int v) :: L) S h := Rg rfl
set_option maxRecDepth 100000 in
theorem e194_76 {L : Lo} {S : List Value} {h : Hp} {x0 x1 : Option Value} {v : Int32} : Run 194 76 (x0 :: x1 :: some (.int v) :: L) S h = Run 194 77 (x0 :: x1 :: some (.int v) :: L) (.int v :: S) h := Rg rfl
set_option maxRecDepth 100000 in
theorem e194_77 {L : Lo} {S : List Value} {h : Hp} {v : Nat} : Run 194 77 (some (.ref v) :: L) S h = Run 194 78 (some (.ref v) :: L) (.ref v :: S) h := Rg rfl
set_option maxRecDepth 100000 in
theorem e194_78 {L : Lo} {S : List Value} {h : Hp} {x0 x1 x2 x3 : Option Value} {v : Int32} : Run 194 78 (x0 :: x1 :: x2 :: x3 :: some (.int v) :: L) S h = Run 194 80 (x0 :: x1 :: x2 :: x3 :: some (.int v) :: L) (.int v :: S) h := Rg rfl
set_option maxRecDepth 100000 in
theorem e194_80 {L : Lo} {S : List Value} {h : Hp} : Run 194 80 L S h = Run 194 81 L (.int 0 :: S) h := Rg rfl
set_option maxRecDepth 100000 in
theorem e194_81 {L : Lo} {h : Hp} {a3 : Int32} {a2 : Int32} {a1 : Nat} {a0 : Int32} (hO : isO h a1 9 = true) : Run 194 81 L [.int a3, .int a2, .ref a1, .int a0] h = (Run 125 0 [some (.ref a1), some (.int a2), some (.int a3)] [] h).bind fun o => aft 194 81 84 L [.int a0] o := Rcv (c := 125) (As := [.int a2, .int a3]) (S' := [.int a0]) (pc' := 84) 9 rfl hO
set_option maxRecDepth 100000 in
theorem e194_84 {L : Lo} {S : List Value} {h : Hp} {x0 : Option Value} {v : Int32} : Run 194 84 (x0 :: some (.int v) :: L) S h = Run 194 85 (x0 :: some (.int v) :: L) (.int v :: S) h := Rg rfl
set_option maxRecDepth 100000 in
theorem e194_85 {L : Lo} {S : List Value} {h : Hp} {x z : Int32} : Run 194 85 L (.int z :: .int x :: S) h = if x = z then Run 194 88 L S h else Run 194 93 L S h := RbrN (c := cnd .ne x z = true) (off := 8) rfl rfl cnd_ne
set_option maxRecDepth 100000 in
theorem e194_88 {L : Lo} {S : List Value} {h : Hp} {x0 x1 x2 x3 x4 : Option Value} {v : Int32} : Run 194 88 (x0 :: x1 :: x2 :: x3 :: x4 :: some (.int v) :: L) S h = Run 194 90 (x0 :: x1 :: x2 :: x3 :: x4 :: some (.int v) :: L) (.int v :: S) h := Rg rfl
set_option maxRecDepth 100000 in
theorem e194_90 {L : Lo} {S : List Value} {h : Hp} : Run 194 90 L S h = Run 194 94 L S h := Rg rfl
set_option maxRecDepth 100000 in
theorem e194_93 {L : Lo} {S : List Value} {h : Hp} : Run 194 93 L S h = Run 194 94 L (.int 0 :: S) h := Rg rfl
set_option maxRecDepth 100000 in
theorem e194_94 {L : Lo} {S : List Value} {h : Hp} {x z : Int32} : Run 194 94 L (.int z :: .int x :: S) h = Run 194 95 L (.int (x + z) :: S) h := Rg rfl
set_option maxRecDepth 100000 in
theorem e194_95 {L : Lo} {S : List Value} {h : Hp} {x0 x1 : Option Value} {y : Option Value} {v : Int32} : Run 194 95 (x0 :: x1 :: y :: L) (.int v :: S) h = Run 194 96 (x0 :: ck x1 :: some (.int v) :: L) S h := Rg rfl
set_option maxRecDepth 100000 in
theorem e194_96 {L : Lo} {S : List Value} {h : Hp} {x0 x1 x2 : Option Value} {v : Int32} : Run 194 96 (x0 :: x1 :: x2 :: some (.int v) :: L) S h = Run 194 97 (x0 :: x1 :: x2 :: some (.int v) :: L) (.int v :: S) h := Rg rfl
set_option maxRecDepth 100000 in
theorem e194_97 {L : Lo} {S : List Value} {h : Hp} {x0 x1 x2 x3 x4 : Option Value} {v : Int32} : Run 194 97 (x0 :: x1 :: x2 :: x3 :: x4 :: some (.int v) :: L) S h = Run 194 99 (x0 :: x1 :: x2 :: x3 :: x4 :: some (.int v) :: L) (.int v :: S) h := Rg rfl
set_option maxRecDepth 100000 in
theorem e194_99 {L : Lo} {S : List Value} {h : Hp} {x z : Int32} : Run 194 99 L (.int z :: .int x :: S) h = Run 194 100 L (.int (x + z) :: S) h := Rg rfl
set_option maxRecDepth 100000 in
theorem e194_100 {L : Lo} {S : List Value} {h : Hp} {x0 x1 x2 : Option Value} {y : Option Value} {v : Int32} : Run 194 100 (x0 :: x1 :: x2 :: y :: L) (.int v :: S) h = Run 194 101 (x0 :: x1 :: ck x2 :: some (.int v) :: L) S h := Rg rfl
set_option maxRecDepth 100000 in
theorem e194_101 {L : Lo} {S : List Value} {h : Hp} {x0 x1 x2 x3 : Option Value} {v : Int32} : Run 194 101 (x0 :: x1 :: x2 :: x3 :: some (.int v) :: L) S h = Run 194 104 (x0 :: x1 :: x2 :: x3 :: some (.int (v + 1)) :: L) S h := Rg rfl
set_option maxRecDepth 100000 in
theorem e194_104 {L : Lo} {S : List Value} {h : Hp} : Run 194 104 L S h = Run 194 34 L S h := Rg rfl
set_option maxRecDepth 100000 in
theorem e194_107 {L : Lo} {S : List Value} {h : Hp} {x0 x1 x2 : Option Value} {v : Int32} : Run 194 107 (x0 :: x1 :: x2 :: some (.int v) :: L) S h = Run 194 108 (x0 :: x1 :: x2 :: some (.int v) :: L) (.int v :: S) h := Rg rfl
set_option maxRecDepth 100000 in
theorem e194_108 {L : Lo} {S : List Value} {h : Hp} {x : Int32} : Run 194 108 L (.int x :: S) h = if x = 0 then Run 194 111 L S h else Run 194 117 L S h := RbrN (c := cnd .ne x 0 = true) (off := 9) rfl rfl cnd_ne
set_option maxRecDepth 100000 in
theorem e194_111 {L : Lo} {S : List Value} {h : Hp} : Run 194 111 L S h = Run 194 114 L (.double (4602678819172646912 : UInt64) :: S) h := Rg rfl
set_option maxRecDepth 100000 in
theorem e194_114 {L : Lo} {S : List Value} {h : Hp} : Run 194 114 L S h = Run 194 122 L S h := Rg rfl
set_option maxRecDepth 100000 in
theorem e194_117 {L : Lo} {S : List Value} {h : Hp} {x0 x1 : Option Value} {v : Int32} : Run 194 117 (x0 :: x1 :: some (.int v) :: L) S h = Run 194 118 (x0 :: x1 :: some (.int v) :: L) (.int v :: S) h := Rg rfl
set_option maxRecDepth 100000 in
theorem e194_118 {L : Lo} {S : List Value} {h : Hp} {x : Int32} : Run 194 118 L (.int x :: S) h = Run 194 119 L (.double (FP.i2d x) :: S) h := Rg rfl
set_option maxRecDepth 100000 in
theorem e194_119 {L : Lo} {S : List Value} {h : Hp} {x0 x1 x2 : Option Value} {v : Int32} : Run 194 119 (x0 :: x1 :: x2 :: some (.int v) :: L) S h = Run 194 120 (x0 :: x1 :: x2 :: some (.int v) :: L) (.int v :: S) h := Rg rfl
set_option maxRecDepth 100000 in
theorem e194_120 {L : Lo} {S : List Value} {h : Hp} {x : Int32} : Run 194 120 L (.int x :: S) h = Run 194 121 L (.double (FP.i2d x) :: S) h := Rg rfl
set_option maxRecDepth 100000 in
theorem e194_121 {L : Lo} {S : List Value} {h : Hp} {x z : UInt64} (hz : vf_n64 (FP.ddiv x z)) : Run 194 121 L (.double z :: .double x :: S) h = Run 194 122 L (.double (FP.ddiv x z) :: S) h := Rg (if_pos hz)
set_option maxRecDepth 100000 in
theorem e194_122 {L : Lo} {h : Hp} {x : UInt64} : Run 194 122 L [.double x] h = some (.inl (some (.double x)), h) := Rd rfl
set_option maxRecDepth 100000 in
theorem e195_0 {L : Lo} {S : List Value} {h : Hp} {v : Nat} : Run 195 0 (some (.ref v) :: L) S h = Run 195 1 (some (.ref v) :: L) (.ref v :: S) h := Rg rfl
set_option maxRecDepth 100000 in
theorem e195_1 {L : Lo} {S : List Value} {h : Hp} {x0 : Option Value} {v : Int32} : Run 195 1 (x0 :: some (.int v) :: L) S h = Run 195 2 (x0 :: some (.int v) :: L) (.int v :: S) h := Rg rfl
set_option maxRecDepth 100000 in
theorem e195_2 {L : Lo} {S : List Value} {h : Hp} : Run 195 2 L S h = Run 195 3 L (.int 0 :: S) h := Rg rfl
set_option maxRecDepth 100000 in
theorem e195_3 {L : Lo} {S : List Value} {h : Hp} : Run 195 3 L S h = Run 195 5 L (.int 127 :: S) h := Rg rfl
set_option maxRecDepth 100000 in
theorem e195_5 {L : Lo} {h : Hp} {a3 : Int32} {a2 : Int32} {a1 : Int32} {a0 : Nat} : Run 195 5 L [.int a3, .int a2, .int a1, .ref a0] h = (Run 118 0 [some (.int a1), some (.int a2), some (.int a3)] [] h).bind fun o => aft 195 5 8 L [.ref a0] o := Rc (c := 118) (As := [.int a1, .int a2, .int a3]) (S' := [.ref a0]) (pc' := 8) rfl
set_option maxRecDepth 100000 in
theorem e195_8 {L : Lo} {S : List Value} {h : Hp} {x : Int32} : Run 195 8 L (.int x :: S) h = if x = 0 then Run 195 11 L S h else Run 195 15 L S h := RbrN (c := cnd .ne x 0 = true) (off := 7) rfl rfl cnd_ne
set_option maxRecDepth 100000 in
theorem e195_11 {L : Lo} {S : List Value} {h : Hp} : Run 195 11 L S h = Run 195 12 L (.int 1 :: S) h := Rg rfl
set_option maxRecDepth 100000 in
theorem e195_12 {L : Lo} {S : List Value} {h : Hp} : Run 195 12 L S h = Run 195 30 L S h := Rg rfl
set_option maxRecDepth 100000 in
theorem e195_15 {L : Lo} {S : List Value} {h : Hp} {v : Nat} : Run 195 15 (some (.ref v) :: L) S h = Run 195 16 (some (.ref v) :: L) (.ref v :: S) h := Rg rfl
set_option maxRecDepth 100000 in
theorem e195_16 {L : Lo} {S : List Value} {h : Hp} {b : Nat} : Run 195 16 L (.ref b :: S) h = (gf h 9 4 b).bind fun v => Run 195 19 L (v :: S) h := Rb rfl fun _ => rfl
set_option maxRecDepth 100000 in
theorem e195_19 {L : Lo} {S : List Value} {h : Hp} : Run 195 19 L S h = Run 195 22 L (.int 150 :: S) h := Rg rfl
set_option maxRecDepth 100000 in
theorem e195_22 {L : Lo} {S : List Value} {h : Hp} {x z : Int32} : Run 195 22 L (.int z :: .int x :: S) h = if x = z then Run 195 25 L S h else Run 195 29 L S h := RbrN (c := cnd .ne x z = true) (off := 7) rfl rfl cnd_ne
set_option maxRecDepth 100000 in
theorem e195_25 {L : Lo} {S : List Value} {h : Hp} : Run 195 25 L S h = Run 195 26 L (.int 2 :: S) h := Rg rfl
set_option maxRecDepth 100000 in
theorem e195_26 {L : Lo} {S : List Value} {h : Hp} : Run 195 26 L S h = Run 195 30 L S h := Rg rfl
set_option maxRecDepth 100000 in
theorem e195_29 {L : Lo} {S : List Value} {h : Hp} : Run 195 29 L S h = Run 195 30 L (.int 0 :: S) h := Rg rfl
set_option maxRecDepth 100000 in
theorem e195_30 {L : Lo} {S : List Value} {h : Hp} {b : Nat} {v : Value} : Run 195 30 L (v :: .ref b :: S) h = (pf h 9 5 b v).bind fun h1 => Run 195 33 L S h1 := Rb rfl fun _ => rfl
set_option maxRecDepth 100000 in
theorem e195_33 {L : Lo} {S : List Value} {h : Hp} {v : Nat} : Run 195 33 (some (.ref v) :: L) S h = Run 195 34 (some (.ref v) :: L) (.ref v :: S) h := Rg rfl
set_option maxRecDepth 100000 in
theorem e195_34 {L : Lo} {S : List Value} {h : Hp} {b : Nat} : Run 195 34 L (.ref b :: S) h = (gf h 9 5 b).bind fun v => Run 195 37 L (v :: S) h := Rb rfl fun _ => rfl
set_option maxRecDepth 100000 in
theorem e195_37 {L : Lo} {S : List Value} {h : Hp} {x : Int32} : Run 195 37 L (.int x :: S) h = if x = 0 then Run 195 42 L S h else Run 195 40 L S h := Rbr (c := cnd .eq x 0 = true) (off := 5) rfl rfl cnd_eq
set_option maxRecDepth 100000 in
theorem e195_40 {L : Lo} {S : List Value} {h : Hp} : Run 195 40 L S h = Run 195 41 L (.int 0 :: S) h := Rg rfl
set_option maxRecDepth 100000 in
theorem e195_41 {L : Lo} {h : Hp} {x : Int32} : Run 195 41 L [.int x] h = some (.inl (some (.int x)), h) := Rd (if_pos (c := narrow .int (.int x) = .int x) rfl)
set_option maxRecDepth 100000 in
theorem e195_42 {L : Lo} {S : List Value} {h : Hp} {v : Nat} : Run 195 42 (some (.ref v) :: L) S h = Run 195 43 (some (.ref v) :: L) (.ref v :: S) h := Rg rfl
set_option maxRecDepth 100000 in
theorem e195_43 {L : Lo} {S : List Value} {h : Hp} {b : Nat} : Run 195 43 L (.ref b :: S) h = (gf h 9 3 b).bind fun v => Run 195 46 L (v :: S) h := Rb rfl fun _ => rfl
set_option maxRecDepth 100000 in
theorem e195_46 {L : Lo} {S : List Value} {h : Hp} {v : Nat} : Run 195 46 (some (.ref v) :: L) S h = Run 195 47 (some (.ref v) :: L) (.ref v :: S) h := Rg rfl
set_option maxRecDepth 100000 in
theorem e195_47 {L : Lo} {S : List Value} {h : Hp} {b : Nat} : Run 195 47 L (.ref b :: S) h = (gf h 9 4 b).bind fun v => Run 195 50 L (v :: S) h := Rb rfl fun _ => rfl
set_option maxRecDepth 100000 in
theorem e195_50 {L : Lo} {S : List Value} {h : Hp} {x0 : Option Value} {v : Int32} : Run 195 50 (x0 :: some (.int v) :: L) S h = Run 195 51 (x0 :: some (.int v) :: L) (.int v :: S) h := Rg rfl
set_option maxRecDepth 100000 in
theorem e195_51 {L : Lo} {S : List Value} {h : Hp} {v : Int32} {i : Int32} {b : Nat} : Run 195 51 L (.int v :: .int i :: .ref b :: S) h = (paI h b i v).bind fun h1 => Run 195 52 L S h1 := Rb rfl fun _ => rfl
set_option maxRecDepth 100000 in
theorem e195_52 {L : Lo} {S : List Value} {h : Hp} {v : Nat} : Run 195 52 (some (.ref v) :: L) S h = Run 195 53 (some (.ref v) :: L) (.ref v :: S) h := Rg rfl
set_option maxRecDepth 100000 in
theorem e195_53 {L : Lo} {S : List Value} {h : Hp} {v : Nat} : Run 195 53 L (.ref v :: S) h = Run 195 54 L (.ref v :: .ref v :: S) h := Rg rfl
set_option maxRecDepth 100000 in
theorem e195_54 {L : Lo} {S : List Value} {h : Hp} {b : Nat} : Run 195 54 L (.ref b :: S) h = (gf h 9 4 b).bind fun v => Run 195 57 L (v :: S) h := Rb rfl fun _ => rfl
set_option maxRecDepth 100000 in
theorem e195_57 {L : Lo} {S : List Value} {h : Hp} : Run 195 57 L S h = Run 195 58 L (.int 1 :: S) h := Rg rfl
set_option maxRecDepth 100000 in
theorem e195_58 {L : Lo} {S : List Value} {h : Hp} {x z : Int32} : Run 195 58 L (.int z :: .int x :: S) h = Run 195 59 L (.int (x + z) :: S) h := Rg rfl
set_option maxRecDepth 100000 in
theorem e195_59 {L : Lo} {S : List Value} {h : Hp} {b : Nat} {v : Value} : Run 195 59 L (v :: .ref b :: S) h = (pf h 9 4 b v).bind fun h1 => Run 195 62 L S h1 := Rb rfl fun _ => rfl
set_option maxRecDepth 100000 in
theorem e195_62 {L : Lo} {S : List Value} {h : Hp} {v : Nat} : Run 195 62 (some (.ref v) :: L) S h = Run 195 63 (some (.ref v) :: L) (.ref v :: S) h := Rg rfl
set_option maxRecDepth 100000 in
theorem e195_63 {L : Lo} {S : List Value} {h : Hp} {b : Nat} : Run 195 63 L (.ref b :: S) h = (gf h 9 4 b).bind fun v => Run 195 66 L (v :: S) h := Rb rfl fun _ => rfl
set_option maxRecDepth 100000 in
theorem e195_66 {L : Lo} {h : Hp} {x : Int32} : Run 195 66 L [.int x] h = some (.inl (some (.int x)), h) := Rd (if_pos (c := narrow .int (.int x) = .int x) rfl)
set_option maxRecDepth 100000 in
theorem e196_0 {L : Lo} {S : List Value} {h : Hp} {v : Nat} : Run 196 0 (some (.ref v) :: L) S h = Run 196 1 (some (.ref v) :: L) (.ref v :: S) h := Rg rfl
set_option maxRecDepth 100000 in
theorem e196_1 {L : Lo} {S : List Value} {h : Hp} : Run 196 1 L S h = Run 196 2 L (.int 0 :: S) h := Rg rfl
set_option maxRecDepth 100000 in
theorem e196_2 {L : Lo} {S : List Value} {h : Hp} {b : Nat} {v : Value} : Run 196 2 L (v :: .ref b :: S) h = (pf h 9 5 b v).bind fun h1 => Run 196 5 L S h1 := Rb rfl fun _ => rfl
set_option maxRecDepth 100000 in
theorem e196_5 {L : Lo} {S : List Value} {h : Hp} {v : Nat} : Run 196 5 (some (.ref v) :: L) S h = Run 196 6 (some (.ref v) :: L) (.ref v :: S) h := Rg rfl
set_option maxRecDepth 100000 in
theorem e196_6 {L : Lo} {S : List Value} {h : Hp} {b : Nat} : Run 196 6 L (.ref b :: S) h = (gf h 9 4 b).bind fun v => Run 196 9 L (v :: S) h := Rb rfl fun _ => rfl
set_option maxRecDepth 100000 in
theorem e196_9 {L : Lo} {S : List Value} {h : Hp} {x0 : Option Value} {y : Option Value} {v : Int32} : Run 196 9 (x0 :: y :: L) (.int v :: S) h = Run 196 10 (ck x0 :: some (.int v) :: L) S h := Rg rfl
set_option maxRecDepth 100000 in
theorem e196_10 {L : Lo} {S : List Value} {h : Hp} {v : Nat} : Run 196 10 (some (.ref v) :: L) S h = Run 196 11 (some (.ref v) :: L) (.ref v :: S) h := Rg rfl
set_option maxRecDepth 100000 in
theorem e196_11 {L : Lo} {S : List Value} {h : Hp} : Run 196 11 L S h = Run 196 12 L (.int 0 :: S) h := Rg rfl
set_option maxRecDepth 100000 in
theorem e196_12 {L : Lo} {S : List Value} {h : Hp} {b : Nat} {v : Value} : Run 196 12 L (v :: .ref b :: S) h = (pf h 9 4 b v).bind fun h1 => Run 196 15 L S h1 := Rb rfl fun _ => rfl
set_option maxRecDepth 100000 in
theorem e196_15 {L : Lo} {S : List Value} {h : Hp} {x0 : Option Value} {v : Int32} : Run 196 15 (x0 :: some (.int v) :: L) S h = Run 196 16 (x0 :: some (.int v) :: L) (.int v :: S) h := Rg rfl
set_option maxRecDepth 100000 in
theorem e196_16 {L : Lo} {h : Hp} {x : Int32} : Run 196 16 L [.int x] h = some (.inl (some (.int x)), h) := Rd (if_pos (c := narrow .int (.int x) = .int x) rfl)
set_option maxRecDepth 100000 in
theorem e197_0 {L : Lo} {S : List Value} {h : Hp} {v : Nat} : Run 197 0 (some (.ref v) :: L) S h = Run 197 1 (some (.ref v) :: L) (.ref v :: S) h := Rg rfl
set_option maxRecDepth 100000 in
theorem e197_1 {L : Lo} {S : List Value} {h : Hp} {b : Nat} : Run 197 1 L (.ref b :: S) h = (gf h 9 7 b).bind fun v => Run 197 4 L (v :: S) h := Rb rfl fun _ => rfl
set_option maxRecDepth 100000 in
theorem e197_4 {L : Lo} {S : List Value} {h : Hp} {v : Nat} : Run 197 4 (some (.ref v) :: L) S h = Run 197 5 (some (.ref v) :: L) (.ref v :: S) h := Rg rfl
set_option maxRecDepth 100000 in
theorem e197_5 {L : Lo} {S : List Value} {h : Hp} {b : Nat} : Run 197 5 L (.ref b :: S) h = (gf h 9 4 b).bind fun v => Run 197 8 L (v :: S) h := Rb rfl fun _ => rfl
set_option maxRecDepth 100000 in
theorem e197_8 {L : Lo} {S : List Value} {h : Hp} {x z : Int32} : Run 197 8 L (.int z :: .int x :: S) h = if z ≤ x then Run 197 23 L S h else Run 197 11 L S h := Rbr (c := cnd .ge x z = true) (off := 15) rfl rfl cnd_ge
set_option maxRecDepth 100000 in
theorem e197_11 {L : Lo} {S : List Value} {h : Hp} {v : Nat} : Run 197 11 (some (.ref v) :: L) S h = Run 197 12 (some (.ref v) :: L) (.ref v :: S) h := Rg rfl
set_option maxRecDepth 100000 in
theorem e197_12 {L : Lo} {S : List Value} {h : Hp} {b : Nat} : Run 197 12 L (.ref b :: S) h = (gf h 9 3 b).bind fun v => Run 197 15 L (v :: S) h := Rb rfl fun _ => rfl
set_option maxRecDepth 100000 in
theorem e197_15 {L : Lo} {S : List Value} {h : Hp} {v : Nat} : Run 197 15 (some (.ref v) :: L) S h = Run 197 16 (some (.ref v) :: L) (.ref v :: S) h := Rg rfl
set_option maxRecDepth 100000 in
theorem e197_16 {L : Lo} {S : List Value} {h : Hp} {b : Nat} : Run 197 16 L (.ref b :: S) h = (gf h 9 7 b).bind fun v => Run 197 19 L (v :: S) h := Rb rfl fun _ => rfl
set_option maxRecDepth 100000 in
theorem e197_19 {L : Lo} {S : List Value} {h : Hp} {i : Int32} {b : Nat} : Run 197 19 L (.int i :: .ref b :: S) h = (gaI h b i).bind fun v => Run 197 20 L (.int v :: S) h := Rb rfl fun _ => rfl
set_option maxRecDepth 100000 in
theorem e197_20 {L : Lo} {S : List Value} {h : Hp} : Run 197 20 L S h = Run 197 24 L S h := Rg rfl
set_option maxRecDepth 100000 in
theorem e197_23 {L : Lo} {S : List Value} {h : Hp} : Run 197 23 L S h = Run 197 24 L (.int (-1) :: S) h := Rg rfl
set_option maxRecDepth 100000 in
theorem e197_24 {L : Lo} {h : Hp} {x : Int32} : Run 197 24 L [.int x] h = some (.inl (some (.int x)), h) := Rd (if_pos (c := narrow .int (.int x) = .int x) rfl)
set_option maxRecDepth 100000 in
theorem e198_0 {L : Lo} {S : List Value} {h : Hp} {v : Nat} : Run 198 0 (some (.ref v) :: L) S h = Run 198 1 (some (.ref v) :: L) (.ref v :: S) h := Rg rfl
set_option maxRecDepth 100000 in
theorem e198_1 {L : Lo} {h : Hp} {a0 : Nat} (hO : isO h a0 9 = true) : Run 198 1 L [.ref a0] h = (Run 197 0 [some (.ref a0)] [] h).bind fun o => aft 198 1 4 L [] o := Rcv (c := 197) (As := []) (S' := []) (pc' := 4) 9 rfl hO
set_option maxRecDepth 100000 in
theorem e198_4 {L : Lo} {S : List Value} {h : Hp} : Run 198 4 L S h = Run 198 6 L (.int 48 :: S) h := Rg rfl
set_option maxRecDepth 100000 in
theorem e198_6 {L : Lo} {S : List Value} {h : Hp} : Run 198 6 L S h = Run 198 8 L (.int 48 :: S) h := Rg rfl
set_option maxRecDepth 100000 in
theorem e198_8 {L : Lo} {S : List Value} {h : Hp} {x0 : Option Value} {v : Int32} : Run 198 8 (x0 :: some (.int v) :: L) S h = Run 198 9 (x0 :: some (.int v) :: L) (.int v :: S) h := Rg rfl
set_option maxRecDepth 100000 in
theorem e198_9 {L : Lo} {S : List Value} {h : Hp} {x z : Int32} : Run 198 9 L (.int z :: .int x :: S) h = Run 198 10 L (.int (x + z) :: S) h := Rg rfl
set_option maxRecDepth 100000 in
theorem e198_10 {L : Lo} {h : Hp} {a2 : Int32} {a1 : Int32} {a0 : Int32} : Run 198 10 L [.int a2, .int a1, .int a0] h = (Run 118 0 [some (.int a0), some (.int a1), some (.int a2)] [] h).bind fun o => aft 198 10 13 L [] o := Rc (c := 118) (As := [.int a0, .int a1, .int a2]) (S' := []) (pc' := 13) rfl
set_option maxRecDepth 100000 in
theorem e198_13 {L : Lo} {S : List Value} {h : Hp} {x0 x1 : Option Value} {y : Option Value} {v : Int32} : Run 198 13 (x0 :: x1 :: y :: L) (.int v :: S) h = Run 198 14 (x0 :: ck x1 :: some (.int v) :: L) S h := Rg rfl
set_option maxRecDepth 100000 in
theorem e198_14 {L : Lo} {S : List Value} {h : Hp} {v : Nat} : Run 198 14 (some (.ref v) :: L) S h = Run 198 15 (some (.ref v) :: L) (.ref v :: S) h := Rg rfl
set_option maxRecDepth 100000 in
theorem e198_15 {L : Lo} {S : List Value} {h : Hp} {v : Nat} : Run 198 15 (some (.ref v) :: L) S h = Run 198 16 (some (.ref v) :: L) (.ref v :: S) h := Rg rfl
set_option maxRecDepth 100000 in
theorem e198_16 {L : Lo} {h : Hp} {a1 : Nat} {a0 : Nat} (hO : isO h a1 9 = true) : Run 198 16 L [.ref a1, .ref a0] h = (Run 197 0 [some (.ref a1)] [] h).bind fun o => aft 198 16 19 L [.ref a0] o := Rcv (c := 197) (As := []) (S' := [.ref a0]) (pc' := 19) 9 rfl hO
set_option maxRecDepth 100000 in
theorem e198_19 {L : Lo} {S : List Value} {h : Hp} : Run 198 19 L S h = Run 198 21 L (.int 48 :: S) h := Rg rfl
set_option maxRecDepth 100000 in
theorem e198_21 {L : Lo} {S : List Value} {h : Hp} {x z : Int32} : Run 198 21 L (.int z :: .int x :: S) h = Run 198 22 L (.int (x - z) :: S) h := Rg rfl
set_option maxRecDepth 100000 in
theorem e198_22 {L : Lo} {S : List Value} {h : Hp} {b : Nat} {v : Value} : Run 198 22 L (v :: .ref b :: S) h = (pf h 9 9 b v).bind fun h1 => Run 198 25 L S h1 := Rb rfl fun _ => rfl
set_option maxRecDepth 100000 in
theorem e198_25 {L : Lo} {S : List Value} {h : Hp} {v : Nat} : Run 198 25 (some (.ref v) :: L) S h = Run 198 26 (some (.ref v) :: L) (.ref v :: S) h := Rg rfl
set_option maxRecDepth 100000 in
theorem e198_26 {L : Lo} {S : List Value} {h : Hp} {v : Nat} : Run 198 26 L (.ref v :: S) h = Run 198 27 L (.ref v :: .ref v :: S) h := Rg rfl
set_option maxRecDepth 100000 in
theorem e198_27 {L : Lo} {S : List Value} {h : Hp} {b : Nat} : Run 198 27 L (.ref b :: S) h = (gf h 9 7 b).bind fun v => Run 198 30 L (v :: S) h := Rb rfl fun _ => rfl
set_option maxRecDepth 100000 in
theorem e198_30 {L : Lo} {S : List Value} {h : Hp} {x0 x1 : Option Value} {v : Int32} : Run 198 30 (x0 :: x1 :: some (.int v) :: L) S h = Run 198 31 (x0 :: x1 :: some (.int v) :: L) (.int v :: S) h := Rg rfl
set_option maxRecDepth 100000 in
theorem e198_31 {L : Lo} {S : List Value} {h : Hp} {x : Int32} : Run 198 31 L (.int x :: S) h = if x = 0 then Run 198 38 L S h else Run 198 34 L S h := Rbr (c := cnd .eq x 0 = true) (off := 7) rfl rfl cnd_eq
set_option maxRecDepth 100000 in
theorem e198_34 {L : Lo} {S : List Value} {h : Hp} : Run 198 34 L S h = Run 198 35 L (.int 1 :: S) h := Rg rfl
set_option maxRecDepth 100000 in
theorem e198_35 {L : Lo} {S : List Value} {h : Hp} : Run 198 35 L S h = Run 198 39 L S h := Rg rfl
set_option maxRecDepth 100000 in
theorem e198_38 {L : Lo} {S : List Value} {h : Hp} : Run 198 38 L S h = Run 198 39 L (.int 0 :: S) h := Rg rfl
set_option maxRecDepth 100000 in
theorem e198_39 {L : Lo} {S : List Value} {h : Hp} {x z : Int32} : Run 198 39 L (.int z :: .int x :: S) h = Run 198 40 L (.int (x + z) :: S) h := Rg rfl
set_option maxRecDepth 100000 in
theorem e198_40 {L : Lo} {S : List Value} {h : Hp} {b : Nat} {v : Value} : Run 198 40 L (v :: .ref b :: S) h = (pf h 9 7 b v).bind fun h1 => Run 198 43 L S h1 := Rb rfl fun _ => rfl
set_option maxRecDepth 100000 in
theorem e198_43 {L : Lo} {S : List Value} {h : Hp} {x0 x1 : Option Value} {v : Int32} : Run 198 43 (x0 :: x1 :: some (.int v) :: L) S h = Run 198 44 (x0 :: x1 :: some (.int v) :: L) (.int v :: S) h := Rg rfl
set_option maxRecDepth 100000 in
theorem e198_44 {L : Lo} {h : Hp} {x : Int32} (hx : narrow .boolean (.int x) = .int x) : Run 198 44 L [.int x] h = some (.inl (some (.int x)), h) := Rd (if_pos hx)
set_option maxRecDepth 100000 in
theorem e199_0 {L : Lo} {S : List Value} {h : Hp} {v : Nat} : Run 199 0 (some (.ref v) :: L) S h = Run 199 1 (some (.ref v) :: L) (.ref v :: S) h := Rg rfl
set_option maxRecDepth 100000 in
theorem e199_1 {L : Lo} {S : List Value} {h : Hp} {v : Nat} : Run 199 1 (some (.ref v) :: L) S h = Run 199 2 (some (.ref v) :: L) (.ref v :: S) h := Rg rfl
set_option maxRecDepth 100000 in
theorem e199_2 {L : Lo} {h : Hp} {a1 : Nat} {a0 : Nat} (hO : isO h a1 9 = true) : Run 199 2 L [.ref a1, .ref a0] h = (Run 197 0 [some (.ref a1)] [] h).bind fun o => aft 199 2 5 L [.ref a0] o := Rcv (c := 197) (As := []) (S' := [.ref a0]) (pc' := 5) 9 rfl hO
set_option maxRecDepth 100000 in
theorem e199_5 {L : Lo} {S : List Value} {h : Hp} {b : Nat} {v : Value} : Run 199 5 L (v :: .ref b :: S) h = (pf h 9 8 b v).bind fun h1 => Run 199 8 L S h1 := Rb rfl fun _ => rfl
set_option maxRecDepth 100000 in
theorem e199_8 {L : Lo} {S : List Value} {h : Hp} {v : Nat} : Run 199 8 (some (.ref v) :: L) S h = Run 199 9 (some (.ref v) :: L) (.ref v :: S) h := Rg rfl
set_option maxRecDepth 100000 in
theorem e199_9 {L : Lo} {S : List Value} {h : Hp} {v : Nat} : Run 199 9 L (.ref v :: S) h = Run 199 10 L (.ref v :: .ref v :: S) h := Rg rfl
set_option maxRecDepth 100000 in
theorem e199_10 {L : Lo} {S : List Value} {h : Hp} {b : Nat} : Run 199 10 L (.ref b :: S) h = (gf h 9 7 b).bind fun v => Run 199 13 L (v :: S) h := Rb rfl fun _ => rfl
set_option maxRecDepth 100000 in
theorem e199_13 {L : Lo} {S : List Value} {h : Hp} {x0 : Option Value} {v : Int32} : Run 199 13 (x0 :: some (.int v) :: L) S h = Run 199 14 (x0 :: some (.int v) :: L) (.int v :: S) h := Rg rfl
set_option maxRecDepth 100000 in
theorem e199_14 {L : Lo} {S : List Value} {h : Hp} {x : Int32} : Run 199 14 L (.int x :: S) h = if x = 0 then Run 199 21 L S h else Run 199 17 L S h := Rbr (c := cnd .eq x 0 = true) (off := 7) rfl rfl cnd_eq
set_option maxRecDepth 100000 in
theorem e199_17 {L : Lo} {S : List Value} {h : Hp} : Run 199 17 L S h = Run 199 18 L (.int 1 :: S) h := Rg rfl
set_option maxRecDepth 100000 in
theorem e199_18 {L : Lo} {S : List Value} {h : Hp} : Run 199 18 L S h = Run 199 22 L S h := Rg rfl
set_option maxRecDepth 100000 in
theorem e199_21 {L : Lo} {S : List Value} {h : Hp} : Run 199 21 L S h = Run 199 22 L (.int 0 :: S) h := Rg rfl
set_option maxRecDepth 100000 in
theorem e199_22 {L : Lo} {S : List Value} {h : Hp} {x z : Int32} : Run 199 22 L (.int z :: .int x :: S) h = Run 199 23 L (.int (x + z) :: S) h := Rg rfl
set_option maxRecDepth 100000 in
theorem e199_23 {L : Lo} {S : List Value} {h : Hp} {b : Nat} {v : Value} : Run 199 23 L (v :: .ref b :: S) h = (pf h 9 7 b v).bind fun h1 => Run 199 26 L S h1 := Rb rfl fun _ => rfl
set_option maxRecDepth 100000 in
theorem e199_26 {L : Lo} {S : List Value} {h : Hp} {x0 : Option Value} {v : Int32} : Run 199 26 (x0 :: some (.int v) :: L) S h = Run 199 27 (x0 :: some (.int v) :: L) (.int v :: S) h := Rg rfl
set_option maxRecDepth 100000 in
theorem e199_27 {L : Lo} {h : Hp} {x : Int32} (hx : narrow .boolean (.int x) = .int x) : Run 199 27 L [.int x] h = some (.inl (some (.int x)), h) := Rd (if_pos hx)
set_option maxRecDepth 100000 in
theorem e200_0 {L : Lo} {S : List Value} {h : Hp} : Run 200 0 L S h = Run 200 1 L (.int 1 :: S) h := Rg rfl
set_option maxRecDepth 100000 in
theorem e200_1 {L : Lo} {S : List Value} {h : Hp} {x0 : Option Value} {y : Option Value} {v : Int32} : Run 200 1 (x0 :: y :: L) (.int v :: S) h = Run 200 2 (ck x0 :: some (.int v) :: L) S h := Rg rfl
set_option maxRecDepth 100000 in
theorem e200_2 {L : Lo} {S : List Value} {h : Hp} {v : Nat} : Run 200 2 (some (.ref v) :: L) S h = Run 200 3 (some (.ref v) :: L) (.ref v :: S) h := Rg rfl
set_option maxRecDepth 100000 in
theorem e200_3 {L : Lo} {S : List Value} {h : Hp} {v : Nat} : Run 200 3 (some (.ref v) :: L) S h = Run 200 4 (some (.ref v) :: L) (.ref v :: S) h := Rg rfl
set_option maxRecDepth 100000 in
theorem e200_4 {L : Lo} {h : Hp} {a1 : Nat} {a0 : Nat} (hO : isO h a1 9 = true) : Run 200 4 L [.ref a1, .ref a0] h = (Run 197 0 [some (.ref a1)] [] h).bind fun o => aft 200 4 7 L [.ref a0] o := Rcv (c := 197) (As := []) (S' := [.ref a0]) (pc' := 7) 9 rfl hO
set_option maxRecDepth 100000 in
theorem e200_7 {L : Lo} {S : List Value} {h : Hp} : Run 200 7 L S h = Run 200 9 L (.int 119 :: S) h := Rg rfl
set_option maxRecDepth 100000 in
theorem e200_9 {L : Lo} {S : List Value} {h : Hp} {x z : Int32} : Run 200 9 L (.int z :: .int x :: S) h = if x = z then Run 200 12 L S h else Run 200 16 L S h := RbrN (c := cnd .ne x z = true) (off := 7) rfl rfl cnd_ne
set_option maxRecDepth 100000 in
theorem e200_12 {L : Lo} {S : List Value} {h : Hp} : Run 200 12 L S h = Run 200 13 L (.int 1 :: S) h := Rg rfl
set_option maxRecDepth 100000 in
theorem e200_13 {L : Lo} {S : List Value} {h : Hp} : Run 200 13 L S h = Run 200 17 L S h := Rg rfl
set_option maxRecDepth 100000 in
theorem e200_16 {L : Lo} {S : List Value} {h : Hp} : Run 200 16 L S h = Run 200 17 L (.int 0 :: S) h := Rg rfl
set_option maxRecDepth 100000 in
theorem e200_17 {L : Lo} {h : Hp} {a1 : Int32} {a0 : Nat} (hO : isO h a0 9 = true) : Run 200 17 L [.int a1, .ref a0] h = (Run 199 0 [some (.ref a0), some (.int a1)] [] h).bind fun o => aft 200 17 20 L [] o := Rcv (c := 199) (As := [.int a1]) (S' := []) (pc' := 20) 9 rfl hO
set_option maxRecDepth 100000 in
theorem e200_20 {L : Lo} {S : List Value} {h : Hp} {x : Int32} : Run 200 20 L (.int x :: S) h = if x = 0 then Run 200 32 L S h else Run 200 23 L S h := Rbr (c := cnd .eq x 0 = true) (off := 12) rfl rfl cnd_eq
set_option maxRecDepth 100000 in
theorem e200_23 {L : Lo} {S : List Value} {h : Hp} {v : Nat} : Run 200 23 (some (.ref v) :: L) S h = Run 200 24 (some (.ref v) :: L) (.ref v :: S) h := Rg rfl
set_option maxRecDepth 100000 in
theorem e200_24 {L : Lo} {S : List Value} {h : Hp} : Run 200 24 L S h = Run 200 25 L (.int 5 :: S) h := Rg rfl
set_option maxRecDepth 100000 in
theorem e200_25 {L : Lo} {h : Hp} {a1 : Int32} {a0 : Nat} (hO : isO h a0 9 = true) : Run 200 25 L [.int a1, .ref a0] h = (Run 198 0 [some (.ref a0), some (.int a1), none] [] h).bind fun o => aft 200 25 28 L [] o := Rcv (c := 198) (As := [.int a1]) (S' := []) (pc' := 28) 9 rfl hO
set_option maxRecDepth 100000 in
theorem e200_28 {L : Lo} {S : List Value} {h : Hp} {x0 : Option Value} {y : Option Value} {v : Int32} : Run 200 28 (x0 :: y :: L) (.int v :: S) h = Run 200 29 (ck x0 :: some (.int v) :: L) S h := Rg rfl
set_option maxRecDepth 100000 in
theorem e200_29 {L : Lo} {S : List Value} {h : Hp} : Run 200 29 L S h = Run 200 107 L S h := Rg rfl
set_option maxRecDepth 100000 in
theorem e200_32 {L : Lo} {S : List Value} {h : Hp} {v : Nat} : Run 200 32 (some (.ref v) :: L) S h = Run 200 33 (some (.ref v) :: L) (.ref v :: S) h := Rg rfl
set_option maxRecDepth 100000 in
theorem e200_33 {L : Lo} {S : List Value} {h : Hp} {v : Nat} : Run 200 33 (some (.ref v) :: L) S h = Run 200 34 (some (.ref v) :: L) (.ref v :: S) h := Rg rfl
set_option maxRecDepth 100000 in
theorem e200_34 {L : Lo} {h : Hp} {a1 : Nat} {a0 : Nat} (hO : isO h a1 9 = true) : Run 200 34 L [.ref a1, .ref a0] h = (Run 197 0 [some (.ref a1)] [] h).bind fun o => aft 200 34 37 L [.ref a0] o := Rcv (c := 197) (As := []) (S' := [.ref a0]) (pc' := 37) 9 rfl hO
set_option maxRecDepth 100000 in
theorem e200_37 {L : Lo} {S : List Value} {h : Hp} : Run 200 37 L S h = Run 200 39 L (.int 101 :: S) h := Rg rfl
set_option maxRecDepth 100000 in
theorem e200_39 {L : Lo} {S : List Value} {h : Hp} {x z : Int32} : Run 200 39 L (.int z :: .int x :: S) h = if x = z then Run 200 42 L S h else Run 200 46 L S h := RbrN (c := cnd .ne x z = true) (off := 7) rfl rfl cnd_ne
set_option maxRecDepth 100000 in
theorem e200_42 {L : Lo} {S : List Value} {h : Hp} : Run 200 42 L S h = Run 200 43 L (.int 1 :: S) h := Rg rfl
set_option maxRecDepth 100000 in
theorem e200_43 {L : Lo} {S : List Value} {h : Hp} : Run 200 43 L S h = Run 200 47 L S h := Rg rfl
set_option maxRecDepth 100000 in
theorem e200_46 {L : Lo} {S : List Value} {h : Hp} : Run 200 46 L S h = Run 200 47 L (.int 0 :: S) h := Rg rfl
set_option maxRecDepth 100000 in
theorem e200_47 {L : Lo} {h : Hp} {a1 : Int32} {a0 : Nat} (hO : isO h a0 9 = true) : Run 200 47 L [.int a1, .ref a0] h = (Run 199 0 [some (.ref a0), some (.int a1)] [] h).bind fun o => aft 200 47 50 L [] o := Rcv (c := 199) (As := [.int a1]) (S' := []) (pc' := 50) 9 rfl hO
set_option maxRecDepth 100000 in
theorem e200_50 {L : Lo} {S : List Value} {h : Hp} {x : Int32} : Run 200 50 L (.int x :: S) h = if x = 0 then Run 200 53 L S h else Run 200 107 L S h := RbrN (c := cnd .ne x 0 = true) (off := 57) rfl rfl cnd_ne
set_option maxRecDepth 100000 in
theorem e200_53 {L : Lo} {S : List Value} {h : Hp} {v : Nat} : Run 200 53 (some (.ref v) :: L) S h = Run 200 54 (some (.ref v) :: L) (.ref v :: S) h := Rg rfl
set_option maxRecDepth 100000 in
theorem e200_54 {L : Lo} {S : List Value} {h : Hp} : Run 200 54 L S h = Run 200 56 L (.int 9 :: S) h := Rg rfl
set_option maxRecDepth 100000 in
theorem e200_56 {L : Lo} {h : Hp} {a1 : Int32} {a0 : Nat} (hO : isO h a0 9 = true) : Run 200 56 L [.int a1, .ref a0] h = (Run 198 0 [some (.ref a0), some (.int a1), none] [] h).bind fun o => aft 200 56 59 L [] o := Rcv (c := 198) (As := [.int a1]) (S' := []) (pc' := 59) 9 rfl hO
set_option maxRecDepth 100000 in
theorem e200_59 {L : Lo} {S : List Value} {h : Hp} {x : Int32} : Run 200 59 L (.int x :: S) h = if x = 0 then Run 200 105 L S h else Run 200 62 L S h := Rbr (c := cnd .eq x 0 = true) (off := 46) rfl rfl cnd_eq
set_option maxRecDepth 100000 in
theorem e200_62 {L : Lo} {S : List Value} {h : Hp} {v : Nat} : Run 200 62 (some (.ref v) :: L) S h = Run 200 63 (some (.ref v) :: L) (.ref v :: S) h := Rg rfl
set_option maxRecDepth 100000 in
theorem e200_63 {L : Lo} {S : List Value} {h : Hp} {v : Nat} : Run 200 63 (some (.ref v) :: L) S h = Run 200 64 (some (.ref v) :: L) (.ref v :: S) h := Rg rfl
set_option maxRecDepth 100000 in
theorem e200_64 {L : Lo} {h : Hp} {a1 : Nat} {a0 : Nat} (hO : isO h a1 9 = true) : Run 200 64 L [.ref a1, .ref a0] h = (Run 197 0 [some (.ref a1)] [] h).bind fun o => aft 200 64 67 L [.ref a0] o := Rcv (c := 197) (As := []) (S' := [.ref a0]) (pc' := 67) 9 rfl hO
set_option maxRecDepth 100000 in
theorem e200_67 {L : Lo} {S : List Value} {h : Hp} : Run 200 67 L S h = Run 200 69 L (.int 97 :: S) h := Rg rfl
set_option maxRecDepth 100000 in
theorem e200_69 {L : Lo} {S : List Value} {h : Hp} {x z : Int32} : Run 200 69 L (.int z :: .int x :: S) h = if x = z then Run 200 90 L S h else Run 200 72 L S h := Rbr (c := cnd .eq x z = true) (off := 21) rfl rfl cnd_eq
set_option maxRecDepth 100000 in
theorem e200_72 {L : Lo} {S : List Value} {h : Hp} {v : Nat} : Run 200 72 (some (.ref v) :: L) S h = Run 200 73 (some (.ref v) :: L) (.ref v :: S) h := Rg rfl
set_option maxRecDepth 100000 in
theorem e200_73 {L : Lo} {h : Hp} {a1 : Nat} {a0 : Nat} (hO : isO h a1 9 = true) : Run 200 73 L [.ref a1, .ref a0] h = (Run 197 0 [some (.ref a1)] [] h).bind fun o => aft 200 73 76 L [.ref a0] o := Rcv (c := 197) (As := []) (S' := [.ref a0]) (pc' := 76) 9 rfl hO
set_option maxRecDepth 100000 in
theorem e200_76 {L : Lo} {S : List Value} {h : Hp} : Run 200 76 L S h = Run 200 78 L (.int 108 :: S) h := Rg rfl
set_option maxRecDepth 100000 in
theorem e200_78 {L : Lo} {S : List Value} {h : Hp} {x z : Int32} : Run 200 78 L (.int z :: .int x :: S) h = if x = z then Run 200 90 L S h else Run 200 81 L S h := Rbr (c := cnd .eq x z = true) (off := 12) rfl rfl cnd_eq
set_option maxRecDepth 100000 in
theorem e200_81 {L : Lo} {S : List Value} {h : Hp} {v : Nat} : Run 200 81 (some (.ref v) :: L) S h = Run 200 82 (some (.ref v) :: L) (.ref v :: S) h := Rg rfl
set_option maxRecDepth 100000 in
theorem e200_82 {L : Lo} {h : Hp} {a1 : Nat} {a0 : Nat} (hO : isO h a1 9 = true) : Run 200 82 L [.ref a1, .ref a0] h = (Run 197 0 [some (.ref a1)] [] h).bind fun o => aft 200 82 85 L [.ref a0] o := Rcv (c := 197) (As := []) (S' := [.ref a0]) (pc' := 85) 9 rfl hO
set_option maxRecDepth 100000 in
theorem e200_85 {L : Lo} {S : List Value} {h : Hp} : Run 200 85 L S h = Run 200 87 L (.int 114 :: S) h := Rg rfl
set_option maxRecDepth 100000 in
theorem e200_87 {L : Lo} {S : List Value} {h : Hp} {x z : Int32} : Run 200 87 L (.int z :: .int x :: S) h = if x = z then Run 200 90 L S h else Run 200 94 L S h := RbrN (c := cnd .ne x z = true) (off := 7) rfl rfl cnd_ne
set_option maxRecDepth 100000 in
theorem e200_90 {L : Lo} {S : List Value} {h : Hp} : Run 200 90 L S h = Run 200 91 L (.int 1 :: S) h := Rg rfl
set_option maxRecDepth 100000 in
theorem e200_91 {L : Lo} {S : List Value} {h : Hp} : Run 200 91 L S h = Run 200 95 L S h := Rg rfl
set_option maxRecDepth 100000 in
theorem e200_94 {L : Lo} {S : List Value} {h : Hp} : Run 200 94 L S h = Run 200 95 L (.int 0 :: S) h := Rg rfl
set_option maxRecDepth 100000 in
theorem e200_95 {L : Lo} {h : Hp} {a1 : Int32} {a0 : Nat} (hO : isO h a0 9 = true) : Run 200 95 L [.int a1, .ref a0] h = (Run 199 0 [some (.ref a0), some (.int a1)] [] h).bind fun o => aft 200 95 98 L [] o := Rcv (c := 199) (As := [.int a1]) (S' := []) (pc' := 98) 9 rfl hO
set_option maxRecDepth 100000 in
theorem e200_98 {L : Lo} {S : List Value} {h : Hp} {x : Int32} : Run 200 98 L (.int x :: S) h = if x = 0 then Run 200 105 L S h else Run 200 101 L S h := Rbr (c := cnd .eq x 0 = true) (off := 7) rfl rfl cnd_eq
set_option maxRecDepth 100000 in
theorem e200_101 {L : Lo} {S : List Value} {h : Hp} : Run 200 101 L S h = Run 200 102 L (.int 1 :: S) h := Rg rfl
set_option maxRecDepth 100000 in
theorem e200_102 {L : Lo} {S : List Value} {h : Hp} : Run 200 102 L S h = Run 200 106 L S h := Rg rfl
set_option maxRecDepth 100000 in
theorem e200_105 {L : Lo} {S : List Value} {h : Hp} : Run 200 105 L S h = Run 200 106 L (.int 0 :: S) h := Rg rfl
set_option maxRecDepth 100000 in
theorem e200_106 {L : Lo} {S : List Value} {h : Hp} {x0 : Option Value} {y : Option Value} {v : Int32} : Run 200 106 (x0 :: y :: L) (.int v :: S) h = Run 200 107 (ck x0 :: some (.int v) :: L) S h := Rg rfl
set_option maxRecDepth 100000 in
theorem e200_107 {L : Lo} {S : List Value} {h : Hp} {x0 : Option Value} {v : Int32} : Run 200 107 (x0 :: some (.int v) :: L) S h = Run 200 108 (x0 :: some (.int v) :: L) (.int v :: S) h := Rg rfl
set_option maxRecDepth 100000 in
theorem e200_108 {L : Lo} {S : List Value} {h : Hp} {x : Int32} : Run 200 108 L (.int x :: S) h = if x = 0 then Run 200 124 L S h else Run 200 111 L S h := Rbr (c := cnd .eq x 0 = true) (off := 16) rfl rfl cnd_eq
set_option maxRecDepth 100000 in
theorem e200_111 {L : Lo} {S : List Value} {h : Hp} {v : Nat} : Run 200 111 (some (.ref v) :: L) S h = Run 200 112 (some (.ref v) :: L) (.ref v :: S) h := Rg rfl
set_option maxRecDepth 100000 in
theorem e200_112 {L : Lo} {h : Hp} {a0 : Nat} (hO : isO h a0 9 = true) : Run 200 112 L [.ref a0] h = (Run 197 0 [some (.ref a0)] [] h).bind fun o => aft 200 112 115 L [] o := Rcv (c := 197) (As := []) (S' := []) (pc' := 115) 9 rfl hO
set_option maxRecDepth 100000 in
theorem e200_115 {L : Lo} {S : List Value} {h : Hp} : Run 200 115 L S h = Run 200 117 L (.int 59 :: S) h := Rg rfl
set_option maxRecDepth 100000 in
theorem e200_117 {L : Lo} {S : List Value} {h : Hp} {x z : Int32} : Run 200 117 L (.int z :: .int x :: S) h = if x = z then Run 200 120 L S h else Run 200 124 L S h := RbrN (c := cnd .ne x z = true) (off := 7) rfl rfl cnd_ne
set_option maxRecDepth 100000 in
theorem e200_120 {L : Lo} {S : List Value} {h : Hp} : Run 200 120 L S h = Run 200 121 L (.int 1 :: S) h := Rg rfl
set_option maxRecDepth 100000 in
theorem e200_121 {L : Lo} {S : List Value} {h : Hp} : Run 200 121 L S h = Run 200 125 L S h := Rg rfl
set_option maxRecDepth 100000 in
theorem e200_124 {L : Lo} {S : List Value} {h : Hp} : Run 200 124 L S h = Run 200 125 L (.int 0 :: S) h := Rg rfl
set_option maxRecDepth 100000 in
theorem e200_125 {L : Lo} {S : List Value} {h : Hp} {x0 x1 : Option Value} {y : Option Value} {v : Int32} : Run 200 125 (x0 :: x1 :: y :: L) (.int v :: S) h = Run 200 126 (x0 :: ck x1 :: some (.int v) :: L) S h := Rg rfl
set_option maxRecDepth 100000 in
theorem e200_126 {L : Lo} {S : List Value} {h : Hp} {v : Nat} : Run 200 126 (some (.ref v) :: L) S h = Run 200 127 (some (.ref v) :: L) (.ref v :: S) h := Rg rfl
set_option maxRecDepth 100000 in
theorem e200_127 {L : Lo} {S : List Value} {h : Hp} {v : Nat} : Run 200 127 L (.ref v :: S) h = Run 200 128 L (.ref v :: .ref v :: S) h := Rg rfl
set_option maxRecDepth 100000 in
theorem e200_128 {L : Lo} {S : List Value} {h : Hp} {b : Nat} : Run 200 128 L (.ref b :: S) h = (gf h 9 7 b).bind fun v => Run 200 131 L (v :: S) h := Rb rfl fun _ => rfl
set_option maxRecDepth 100000 in
theorem e200_131 {L : Lo} {S : List Value} {h : Hp} {x0 x1 : Option Value} {v : Int32} : Run 200 131 (x0 :: x1 :: some (.int v) :: L) S h = Run 200 132 (x0 :: x1 :: some (.int v) :: L) (.int v :: S) h := Rg rfl
set_option maxRecDepth 100000 in
theorem e200_132 {L : Lo} {S : List Value} {h : Hp} {x : Int32} : Run 200 132 L (.int x :: S) h = if x = 0 then Run 200 139 L S h else Run 200 135 L S h := Rbr (c := cnd .eq x 0 = true) (off := 7) rfl rfl cnd_eq
set_option maxRecDepth 100000 in
theorem e200_135 {L : Lo} {S : List Value} {h : Hp} : Run 200 135 L S h = Run 200 136 L (.int 1 :: S) h := Rg rfl
set_option maxRecDepth 100000 in
theorem e200_136 {L : Lo} {S : List Value} {h : Hp} : Run 200 136 L S h = Run 200 140 L S h := Rg rfl
set_option maxRecDepth 100000 in
theorem e200_139 {L : Lo} {S : List Value} {h : Hp} : Run 200 139 L S h = Run 200 140 L (.int 0 :: S) h := Rg rfl
set_option maxRecDepth 100000 in
theorem e200_140 {L : Lo} {S : List Value} {h : Hp} {x z : Int32} : Run 200 140 L (.int z :: .int x :: S) h = Run 200 141 L (.int (x + z) :: S) h := Rg rfl
set_option maxRecDepth 100000 in
theorem e200_141 {L : Lo} {S : List Value} {h : Hp} {b : Nat} {v : Value} : Run 200 141 L (v :: .ref b :: S) h = (pf h 9 7 b v).bind fun h1 => Run 200 144 L S h1 := Rb rfl fun _ => rfl
set_option maxRecDepth 100000 in
theorem e200_144 {L : Lo} {S : List Value} {h : Hp} {x0 x1 : Option Value} {v : Int32} : Run 200 144 (x0 :: x1 :: some (.int v) :: L) S h = Run 200 145 (x0 :: x1 :: some (.int v) :: L) (.int v :: S) h := Rg rfl
set_option maxRecDepth 100000 in
theorem e200_145 {L : Lo} {h : Hp} {x : Int32} (hx : narrow .boolean (.int x) = .int x) : Run 200 145 L [.int x] h = some (.inl (some (.int x)), h) := Rd (if_pos hx)
set_option maxRecDepth 100000 in
theorem e201_0 {L : Lo} {S : List Value} {h : Hp} {v : Nat} : Run 201 0 (some (.ref v) :: L) S h = Run 201 1 (some (.ref v) :: L) (.ref v :: S) h := Rg rfl
set_option maxRecDepth 100000 in
theorem e201_1 {L : Lo} {S : List Value} {h : Hp} : Run 201 1 L S h = Run 201 2 L (.int 0 :: S) h := Rg rfl
set_option maxRecDepth 100000 in
theorem e201_2 {L : Lo} {S : List Value} {h : Hp} {b : Nat} {v : Value} : Run 201 2 L (v :: .ref b :: S) h = (pf h 9 7 b v).bind fun h1 => Run 201 5 L S h1 := Rb rfl fun _ => rfl
set_option maxRecDepth 100000 in
theorem e201_5 {L : Lo} {S : List Value} {h : Hp} : Run 201 5 L S h = Run 201 6 L (.int 1 :: S) h := Rg rfl
set_option maxRecDepth 100000 in
theorem e201_6 {L : Lo} {S : List Value} {h : Hp} {x0 : Option Value} {y : Option Value} {v : Int32} : Run 201 6 (x0 :: y :: L) (.int v :: S) h = Run 201 7 (ck x0 :: some (.int v) :: L) S h := Rg rfl
set_option maxRecDepth 100000 in
theorem e201_7 {L : Lo} {S : List Value} {h : Hp} {x0 : Option Value} {v : Int32} : Run 201 7 (x0 :: some (.int v) :: L) S h = Run 201 8 (x0 :: some (.int v) :: L) (.int v :: S) h := Rg rfl
set_option maxRecDepth 100000 in
theorem e201_8 {L : Lo} {S : List Value} {h : Hp} {x : Int32} : Run 201 8 L (.int x :: S) h = if x = 0 then Run 201 30 L S h else Run 201 11 L S h := Rbr (c := cnd .eq x 0 = true) (off := 22) rfl rfl cnd_eq
set_option maxRecDepth 100000 in
theorem e201_11 {L : Lo} {S : List Value} {h : Hp} {v : Nat} : Run 201 11 (some (.ref v) :: L) S h = Run 201 12 (some (.ref v) :: L) (.ref v :: S) h := Rg rfl
set_option maxRecDepth 100000 in
theorem e201_12 {L : Lo} {S : List Value} {h : Hp} {b : Nat} : Run 201 12 L (.ref b :: S) h = (gf h 9 7 b).bind fun v => Run 201 15 L (v :: S) h := Rb rfl fun _ => rfl
set_option maxRecDepth 100000 in
theorem e201_15 {L : Lo} {S : List Value} {h : Hp} {v : Nat} : Run 201 15 (some (.ref v) :: L) S h = Run 201 16 (some (.ref v) :: L) (.ref v :: S) h := Rg rfl
set_option maxRecDepth 100000 in
theorem e201_16 {L : Lo} {S : List Value} {h : Hp} {b : Nat} : Run 201 16 L (.ref b :: S) h = (gf h 9 4 b).bind fun v => Run 201 19 L (v :: S) h := Rb rfl fun _ => rfl
set_option maxRecDepth 100000 in
theorem e201_19 {L : Lo} {S : List Value} {h : Hp} {x z : Int32} : Run 201 19 L (.int z :: .int x :: S) h = if z ≤ x then Run 201 30 L S h else Run 201 22 L S h := Rbr (c := cnd .ge x z = true) (off := 11) rfl rfl cnd_ge
set_option maxRecDepth 100000 in
theorem e201_22 {L : Lo} {S : List Value} {h : Hp} {v : Nat} : Run 201 22 (some (.ref v) :: L) S h = Run 201 23 (some (.ref v) :: L) (.ref v :: S) h := Rg rfl
set_option maxRecDepth 100000 in
theorem e201_23 {L : Lo} {h : Hp} {a0 : Nat} (hO : isO h a0 9 = true) : Run 201 23 L [.ref a0] h = (Run 200 0 [some (.ref a0), none, none] [] h).bind fun o => aft 201 23 26 L [] o := Rcv (c := 200) (As := []) (S' := []) (pc' := 26) 9 rfl hO
set_option maxRecDepth 100000 in
theorem e201_26 {L : Lo} {S : List Value} {h : Hp} {x0 : Option Value} {y : Option Value} {v : Int32} : Run 201 26 (x0 :: y :: L) (.int v :: S) h = Run 201 27 (ck x0 :: some (.int v) :: L) S h := Rg rfl
set_option maxRecDepth 100000 in
theorem e201_27 {L : Lo} {S : List Value} {h : Hp} : Run 201 27 L S h = Run 201 7 L S h := Rg rfl
set_option maxRecDepth 100000 in
theorem e201_30 {L : Lo} {S : List Value} {h : Hp} {x0 : Option Value} {v : Int32} : Run 201 30 (x0 :: some (.int v) :: L) S h = Run 201 31 (x0 :: some (.int v) :: L) (.int v :: S) h := Rg rfl
set_option maxRecDepth 100000 in
theorem e201_31 {L : Lo} {h : Hp} {x : Int32} (hx : narrow .boolean (.int x) = .int x) : Run 201 31 L [.int x] h = some (.inl (some (.int x)), h) := Rd (if_pos hx)
set_option maxRecDepth 100000 in
theorem e202_0 {L : Lo} {S : List Value} {h : Hp} {v : Nat} : Run 202 0 (some (.ref v) :: L) S h = Run 202 1 (some (.ref v) :: L) (.ref v :: S) h := Rg rfl
set_option maxRecDepth 100000 in
theorem e202_1 {L : Lo} {S : List Value} {h : Hp} {b : Nat} : Run 202 1 L (.ref b :: S) h = (gf h 9 8 b).bind fun v => Run 202 4 L (v :: S) h := Rb rfl fun _ => rfl
set_option maxRecDepth 100000 in
theorem e202_4 {L : Lo} {S : List Value} {h : Hp} : Run 202 4 L S h = Run 202 6 L (.int 119 :: S) h := Rg rfl
set_option maxRecDepth 100000 in
theorem e202_6 {L : Lo} {S : List Value} {h : Hp} {x z : Int32} : Run 202 6 L (.int z :: .int x :: S) h = if x = z then Run 202 63 L S h else Run 202 9 L S h := Rbr (c := cnd .eq x z = true) (off := 57) rfl rfl cnd_eq
set_option maxRecDepth 100000 in
theorem e202_9 {L : Lo} {S : List Value} {h : Hp} {v : Nat} : Run 202 9 (some (.ref v) :: L) S h = Run 202 10 (some (.ref v) :: L) (.ref v :: S) h := Rg rfl
set_option maxRecDepth 100000 in
theorem e202_10 {L : Lo} {S : List Value} {h : Hp} {b : Nat} : Run 202 10 L (.ref b :: S) h = (gf h 9 8 b).bind fun v => Run 202 13 L (v :: S) h := Rb rfl fun _ => rfl
set_option maxRecDepth 100000 in
theorem e202_13 {L : Lo} {S : List Value} {h : Hp} : Run 202 13 L S h = Run 202 15 L (.int 101 :: S) h := Rg rfl
set_option maxRecDepth 100000 in
theorem e202_15 {L : Lo} {S : List Value} {h : Hp} {x z : Int32} : Run 202 15 L (.int z :: .int x :: S) h = if x = z then Run 202 63 L S h else Run 202 18 L S h := Rbr (c := cnd .eq x z = true) (off := 48) rfl rfl cnd_eq
set_option maxRecDepth 100000 in
theorem e202_18 {L : Lo} {S : List Value} {h : Hp} {v : Nat} : Run 202 18 (some (.ref v) :: L) S h = Run 202 19 (some (.ref v) :: L) (.ref v :: S) h := Rg rfl
set_option maxRecDepth 100000 in
theorem e202_19 {L : Lo} {S : List Value} {h : Hp} {b : Nat} : Run 202 19 L (.ref b :: S) h = (gf h 9 8 b).bind fun v => Run 202 22 L (v :: S) h := Rb rfl fun _ => rfl
set_option maxRecDepth 100000 in
theorem e202_22 {L : Lo} {S : List Value} {h : Hp} : Run 202 22 L S h = Run 202 24 L (.int 97 :: S) h := Rg rfl
set_option maxRecDepth 100000 in
theorem e202_24 {L : Lo} {S : List Value} {h : Hp} {x z : Int32} : Run 202 24 L (.int z :: .int x :: S) h = if x = z then Run 202 27 L S h else Run 202 38 L S h := RbrN (c := cnd .ne x z = true) (off := 14) rfl rfl cnd_ne
set_option maxRecDepth 100000 in
theorem e202_27 {L : Lo} {S : List Value} {h : Hp} {v : Nat} : Run 202 27 (some (.ref v) :: L) S h = Run 202 28 (some (.ref v) :: L) (.ref v :: S) h := Rg rfl
set_option maxRecDepth 100000 in
theorem e202_28 {L : Lo} {S : List Value} {h : Hp} {v : Nat} : Run 202 28 (some (.ref v) :: L) S h = Run 202 29 (some (.ref v) :: L) (.ref v :: S) h := Rg rfl
set_option maxRecDepth 100000 in
theorem e202_29 {L : Lo} {S : List Value} {h : Hp} {b : Nat} : Run 202 29 L (.ref b :: S) h = (gf h 9 9 b).bind fun v => Run 202 32 L (v :: S) h := Rb rfl fun _ => rfl
set_option maxRecDepth 100000 in
theorem e202_32 {L : Lo} {h : Hp} {a1 : Int32} {a0 : Nat} (hO : isO h a0 9 = true) : Run 202 32 L [.int a1, .ref a0] h = (Run 159 0 [some (.ref a0), some (.int a1), none] [] h).bind fun o => aft 202 32 35 L [] o := Rcv (c := 159) (As := [.int a1]) (S' := []) (pc' := 35) 9 rfl hO
set_option maxRecDepth 100000 in
theorem e202_35 {L : Lo} {S : List Value} {h : Hp} : Run 202 35 L S h = Run 202 60 L S h := Rg rfl
set_option maxRecDepth 100000 in
theorem e202_38 {L : Lo} {S : List Value} {h : Hp} {v : Nat} : Run 202 38 (some (.ref v) :: L) S h = Run 202 39 (some (.ref v) :: L) (.ref v :: S) h := Rg rfl
set_option maxRecDepth 100000 in
theorem e202_39 {L : Lo} {S : List Value} {h : Hp} {v : Nat} : Run 202 39 (some (.ref v) :: L) S h = Run 202 40 (some (.ref v) :: L) (.ref v :: S) h := Rg rfl
set_option maxRecDepth 100000 in
theorem e202_40 {L : Lo} {S : List Value} {h : Hp} {b : Nat} : Run 202 40 L (.ref b :: S) h = (gf h 9 9 b).bind fun v => Run 202 43 L (v :: S) h := Rb rfl fun _ => rfl
set_option maxRecDepth 100000 in
theorem e202_43 {L : Lo} {S : List Value} {h : Hp} {v : Nat} : Run 202 43 (some (.ref v) :: L) S h = Run 202 44 (some (.ref v) :: L) (.ref v :: S) h := Rg rfl
set_option maxRecDepth 100000 in
theorem e202_44 {L : Lo} {S : List Value} {h : Hp} {b : Nat} : Run 202 44 L (.ref b :: S) h = (gf h 9 8 b).bind fun v => Run 202 47 L (v :: S) h := Rb rfl fun _ => rfl
set_option maxRecDepth 100000 in
theorem e202_47 {L : Lo} {S : List Value} {h : Hp} : Run 202 47 L S h = Run 202 49 L (.int 114 :: S) h := Rg rfl
set_option maxRecDepth 100000 in
theorem e202_49 {L : Lo} {S : List Value} {h : Hp} {x z : Int32} : Run 202 49 L (.int z :: .int x :: S) h = if x = z then Run 202 52 L S h else Run 202 56 L S h := RbrN (c := cnd .ne x z = true) (off := 7) rfl rfl cnd_ne
set_option maxRecDepth 100000 in
theorem e202_52 {L : Lo} {S : List Value} {h : Hp} : Run 202 52 L S h = Run 202 53 L (.int 1 :: S) h := Rg rfl
set_option maxRecDepth 100000 in
theorem e202_53 {L : Lo} {S : List Value} {h : Hp} : Run 202 53 L S h = Run 202 57 L S h := Rg rfl
set_option maxRecDepth 100000 in
theorem e202_56 {L : Lo} {S : List Value} {h : Hp} : Run 202 56 L S h = Run 202 57 L (.int 0 :: S) h := Rg rfl
set_option maxRecDepth 100000 in
theorem e202_57 {L : Lo} {h : Hp} {a2 : Int32} {a1 : Int32} {a0 : Nat} (hO : isO h a0 9 = true) : Run 202 57 L [.int a2, .int a1, .ref a0] h = (Run 163 0 [some (.ref a0), some (.int a1), some (.int a2), none] [] h).bind fun o => aft 202 57 60 L [] o := Rcv (c := 163) (As := [.int a1, .int a2]) (S' := []) (pc' := 60) 9 rfl hO
set_option maxRecDepth 100000 in
theorem e202_60 {L : Lo} {S : List Value} {h : Hp} {x : Int32} : Run 202 60 L (.int x :: S) h = if x = 0 then Run 202 63 L S h else Run 202 67 L S h := RbrN (c := cnd .ne x 0 = true) (off := 7) rfl rfl cnd_ne
set_option maxRecDepth 100000 in
theorem e202_63 {L : Lo} {S : List Value} {h : Hp} : Run 202 63 L S h = Run 202 64 L (.int 1 :: S) h := Rg rfl
set_option maxRecDepth 100000 in
theorem e202_64 {L : Lo} {S : List Value} {h : Hp} : Run 202 64 L S h = Run 202 68 L S h := Rg rfl
set_option maxRecDepth 100000 in
theorem e202_67 {L : Lo} {S : List Value} {h : Hp} : Run 202 67 L S h = Run 202 68 L (.int 0 :: S) h := Rg rfl
set_option maxRecDepth 100000 in
theorem e202_68 {L : Lo} {h : Hp} {x : Int32} (hx : narrow .boolean (.int x) = .int x) : Run 202 68 L [.int x] h = some (.inl (some (.int x)), h) := Rd (if_pos hx)
set_option maxRecDepth 100000 in
theorem e203_0 {L : Lo} {S : List Value} {h : Hp} {v : Nat} : Run 203 0 (some (.ref v) :: L) S h = Run 203 1 (some (.ref v) :: L) (.ref v :: S) h := Rg rfl
set_option maxRecDepth 100000 in
theorem e203_1 {L : Lo} {S : List Value} {h : Hp} {b : Nat} : Run 203 1 L (.ref b :: S) h = (gf h 9 8 b).bind fun v => Run 203 4 L (v :: S) h := Rb rfl fun _ => rfl
set_option maxRecDepth 100000 in
theorem e203_4_97 {L : Lo} {S : List Value} {h : Hp} : Run 203 4 L (.int 97 :: S) h = Run 203 60 L S h := Rg rfl
set_option maxRecDepth 100000 in
theorem e203_4_101 {L : Lo} {S : List Value} {h : Hp} : Run 203 4 L (.int 101 :: S) h = Run 203 55 L S h := Rg rfl
set_option maxRecDepth 100000 in
theorem e203_4_119 {L : Lo} {S : List Value} {h : Hp} : Run 203 4 L (.int 119 :: S) h = Run 203 40 L S h := Rg rfl
theorem e203_4_d {L : Lo} {S : List Value} {h : Hp} {x : Int32} (hx : Op.lookupswitch.offset [(97, 56), (101, 51), (119, 36)] 65 x.toInt = 65) : Run 203 4 L (.int x :: S) h = Run 203 69 L S h := Rg (by show (tg 4 (Op.lookupswitch.offset [(97, 56), (101, 51), (119, 36)] 65 x.toInt)).bind _ = _; rw [hx]; rfl)
set_option maxRecDepth 100000 in
theorem e203_40 {L : Lo} {S : List Value} {h : Hp} {v : Nat} : Run 203 40 (some (.ref v) :: L) S h = Run 203 41 (some (.ref v) :: L) (.ref v :: S) h := Rg rfl
set_option maxRecDepth 100000 in
theorem e203_41 {L : Lo} {S : List Value} {h : Hp} {b : Nat} : Run 203 41 L (.ref b :: S) h = (gf h 9 0 b).bind fun v => Run 203 44 L (v :: S) h := Rb rfl fun _ => rfl
set_option maxRecDepth 100000 in
theorem e203_44 {L : Lo} {S : List Value} {h : Hp} : Run 203 44 L S h = Run 203 45 L (.int 2 :: S) h := Rg rfl
set_option maxRecDepth 100000 in
theorem e203_45 {L : Lo} {S : List Value} {h : Hp} {v : Nat} : Run 203 45 (some (.ref v) :: L) S h = Run 203 46 (some (.ref v) :: L) (.ref v :: S) h := Rg rfl
set_option maxRecDepth 100000 in
theorem e203_46 {L : Lo} {S : List Value} {h : Hp} {b : Nat} : Run 203 46 L (.ref b :: S) h = (gf h 9 9 b).bind fun v => Run 203 49 L (v :: S) h := Rb rfl fun _ => rfl
set_option maxRecDepth 100000 in
theorem e203_49 {L : Lo} {S : List Value} {h : Hp} {v : Int32} {i : Int32} {b : Nat} : Run 203 49 L (.int v :: .int i :: .ref b :: S) h = (paI h b i v).bind fun h1 => Run 203 50 L S h1 := Rb rfl fun _ => rfl
set_option maxRecDepth 100000 in
theorem e203_50 {L : Lo} {S : List Value} {h : Hp} {v : Nat} : Run 203 50 (some (.ref v) :: L) S h = Run 203 51 (some (.ref v) :: L) (.ref v :: S) h := Rg rfl
set_option maxRecDepth 100000 in
theorem e203_51 {L : Lo} {S : List Value} {h : Hp} {b : Nat} : Run 203 51 L (.ref b :: S) h = (gf h 9 9 b).bind fun v => Run 203 54 L (v :: S) h := Rb rfl fun _ => rfl
set_option maxRecDepth 100000 in
theorem e203_54 {L : Lo} {h : Hp} {x : Int32} : Run 203 54 L [.int x] h = some (.inl (some (.int x)), h) := Rd (if_pos (c := narrow .int (.int x) = .int x) rfl)
set_option maxRecDepth 100000 in
theorem e203_55 {L : Lo} {S : List Value} {h : Hp} {v : Nat} : Run 203 55 (some (.ref v) :: L) S h = Run 203 56 (some (.ref v) :: L) (.ref v :: S) h := Rg rfl
set_option maxRecDepth 100000 in
theorem e203_56 {L : Lo} {h : Hp} {a0 : Nat} (hO : isO h a0 9 = true) : Run 203 56 L [.ref a0] h = (Run 166 0 [some (.ref a0), none, none, none] [] h).bind fun o => aft 203 56 59 L [] o := Rcv (c := 166) (As := []) (S' := []) (pc' := 59) 9 rfl hO
set_option maxRecDepth 100000 in
theorem e203_59 {L : Lo} {h : Hp} {x : Int32} : Run 203 59 L [.int x] h = some (.inl (some (.int x)), h) := Rd (if_pos (c := narrow .int (.int x) = .int x) rfl)
set_option maxRecDepth 100000 in
theorem e203_60 {L : Lo} {S : List Value} {h : Hp} {v : Nat} : Run 203 60 (some (.ref v) :: L) S h = Run 203 61 (some (.ref v) :: L) (.ref v :: S) h := Rg rfl
set_option maxRecDepth 100000 in
theorem e203_61 {L : Lo} {S : List Value} {h : Hp} {v : Nat} : Run 203 61 (some (.ref v) :: L) S h = Run 203 62 (some (.ref v) :: L) (.ref v :: S) h := Rg rfl
set_option maxRecDepth 100000 in
theorem e203_62 {L : Lo} {S : List Value} {h : Hp} {b : Nat} : Run 203 62 L (.ref b :: S) h = (gf h 9 9 b).bind fun v => Run 203 65 L (v :: S) h := Rb rfl fun _ => rfl
set_option maxRecDepth 100000 in
theorem e203_65 {L : Lo} {h : Hp} {a1 : Int32} {a0 : Nat} (hO : isO h a0 9 = true) : Run 203 65 L [.int a1, .ref a0] h = (Run 160 0 [some (.ref a0), some (.int a1)] [] h).bind fun o => aft 203 65 68 L [] o := Rcv (c := 160) (As := [.int a1]) (S' := []) (pc' := 68) 9 rfl hO
set_option maxRecDepth 100000 in
theorem e203_68 {L : Lo} {h : Hp} {x : Int32} : Run 203 68 L [.int x] h = some (.inl (some (.int x)), h) := Rd (if_pos (c := narrow .int (.int x) = .int x) rfl)
set_option maxRecDepth 100000 in
theorem e203_69 {L : Lo} {S : List Value} {h : Hp} {v : Nat} : Run 203 69 (some (.ref v) :: L) S h = Run 203 70 (some (.ref v) :: L) (.ref v :: S) h := Rg rfl
set_option maxRecDepth 100000 in
theorem e203_70 {L : Lo} {S : List Value} {h : Hp} {v : Nat} : Run 203 70 (some (.ref v) :: L) S h = Run 203 71 (some (.ref v) :: L) (.ref v :: S) h := Rg rfl
set_option maxRecDepth 100000 in
theorem e203_71 {L : Lo} {S : List Value} {h : Hp} {b : Nat} : Run 203 71 L (.ref b :: S) h = (gf h 9 9 b).bind fun v => Run 203 74 L (v :: S) h := Rb rfl fun _ => rfl
set_option maxRecDepth 100000 in
theorem e203_74 {L : Lo} {S : List Value} {h : Hp} {v : Nat} : Run 203 74 (some (.ref v) :: L) S h = Run 203 75 (some (.ref v) :: L) (.ref v :: S) h := Rg rfl
set_option maxRecDepth 100000 in
theorem e203_75 {L : Lo} {S : List Value} {h : Hp} {b : Nat} : Run 203 75 L (.ref b :: S) h = (gf h 9 8 b).bind fun v => Run 203 78 L (v :: S) h := Rb rfl fun _ => rfl
set_option maxRecDepth 100000 in
theorem e203_78 {L : Lo} {S : List Value} {h : Hp} : Run 203 78 L S h = Run 203 80 L (.int 114 :: S) h := Rg rfl
set_option maxRecDepth 100000 in
theorem e203_80 {L : Lo} {S : List Value} {h : Hp} {x z : Int32} : Run 203 80 L (.int z :: .int x :: S) h = if x = z then Run 203 83 L S h else Run 203 87 L S h := RbrN (c := cnd .ne x z = true) (off := 7) rfl rfl cnd_ne
set_option maxRecDepth 100000 in
theorem e203_83 {L : Lo} {S : List Value} {h : Hp} : Run 203 83 L S h = Run 203 84 L (.int 1 :: S) h := Rg rfl
set_option maxRecDepth 100000 in
theorem e203_84 {L : Lo} {S : List Value} {h : Hp} : Run 203 84 L S h = Run 203 88 L S h := Rg rfl
set_option maxRecDepth 100000 in
theorem e203_87 {L : Lo} {S : List Value} {h : Hp} : Run 203 87 L S h = Run 203 88 L (.int 0 :: S) h := Rg rfl
set_option maxRecDepth 100000 in
theorem e203_88 {L : Lo} {h : Hp} {a2 : Int32} {a1 : Int32} {a0 : Nat} (hO : isO h a0 9 = true) : Run 203 88 L [.int a2, .int a1, .ref a0] h = (Run 164 0 [some (.ref a0), some (.int a1), some (.int a2)] [] h).bind fun o => aft 203 88 91 L [] o := Rcv (c := 164) (As := [.int a1, .int a2]) (S' := []) (pc' := 91) 9 rfl hO
set_option maxRecDepth 100000 in
theorem e203_91 {L : Lo} {h : Hp} {x : Int32} : Run 203 91 L [.int x] h = some (.inl (some (.int x)), h) := Rd (if_pos (c := narrow .int (.int x) = .int x) rfl)
set_option maxRecDepth 100000 in
theorem e204_0 {L : Lo} {S : List Value} {h : Hp} {v : Nat} : Run 204 0 (some (.ref v) :: L) S h = Run 204 1 (some (.ref v) :: L) (.ref v :: S) h := Rg rfl
set_option maxRecDepth 100000 in
theorem e204_1 {L : Lo} {S : List Value} {h : Hp} : Run 204 1 L S h = Run 204 2 L (.int 0 :: S) h := Rg rfl
set_option maxRecDepth 100000 in
theorem e204_2 {L : Lo} {S : List Value} {h : Hp} {b : Nat} {v : Value} : Run 204 2 L (v :: .ref b :: S) h = (pf h 9 5 b v).bind fun h1 => Run 204 5 L S h1 := Rb rfl fun _ => rfl
set_option maxRecDepth 100000 in
theorem e204_5 {L : Lo} {S : List Value} {h : Hp} {v : Nat} : Run 204 5 (some (.ref v) :: L) S h = Run 204 6 (some (.ref v) :: L) (.ref v :: S) h := Rg rfl
set_option maxRecDepth 100000 in
theorem e204_6 {L : Lo} {h : Hp} {a0 : Nat} (hO : isO h a0 9 = true) : Run 204 6 L [.ref a0] h = (Run 201 0 [some (.ref a0), none] [] h).bind fun o => aft 204 6 9 L [] o := Rcv (c := 201) (As := []) (S' := []) (pc' := 9) 9 rfl hO
set_option maxRecDepth 100000 in
theorem e204_9 {L : Lo} {S : List Value} {h : Hp} {x : Int32} : Run 204 9 L (.int x :: S) h = if x = 0 then Run 204 12 L S h else Run 204 20 L S h := RbrN (c := cnd .ne x 0 = true) (off := 11) rfl rfl cnd_ne
set_option maxRecDepth 100000 in
theorem e204_12 {L : Lo} {S : List Value} {h : Hp} : Run 204 12 L S h = Run 204 14 L (.int (-10) :: S) h := Rg rfl
set_option maxRecDepth 100000 in
theorem e204_14 {L : Lo} {S : List Value} {h : Hp} {v : Nat} : Run 204 14 (some (.ref v) :: L) S h = Run 204 15 (some (.ref v) :: L) (.ref v :: S) h := Rg rfl
set_option maxRecDepth 100000 in
theorem e204_15 {L : Lo} {S : List Value} {h : Hp} {b : Nat} : Run 204 15 L (.ref b :: S) h = (gf h 9 7 b).bind fun v => Run 204 18 L (v :: S) h := Rb rfl fun _ => rfl
set_option maxRecDepth 100000 in
theorem e204_18 {L : Lo} {S : List Value} {h : Hp} {x z : Int32} : Run 204 18 L (.int z :: .int x :: S) h = Run 204 19 L (.int (x - z) :: S) h := Rg rfl
set_option maxRecDepth 100000 in
theorem e204_19 {L : Lo} {h : Hp} {x : Int32} : Run 204 19 L [.int x] h = some (.inl (some (.int x)), h) := Rd (if_pos (c := narrow .int (.int x) = .int x) rfl)
set_option maxRecDepth 100000 in
theorem e204_20 {L : Lo} {S : List Value} {h : Hp} {v : Nat} : Run 204 20 (some (.ref v) :: L) S h = Run 204 21 (some (.ref v) :: L) (.ref v :: S) h := Rg rfl
set_option maxRecDepth 100000 in
theorem e204_21 {L : Lo} {h : Hp} {a0 : Nat} (hO : isO h a0 9 = true) : Run 204 21 L [.ref a0] h = (Run 121 0 [some (.ref a0), none] [] h).bind fun o => aft 204 21 24 L [] o := Rcv (c := 121) (As := []) (S' := []) (pc' := 24) 9 rfl hO
set_option maxRecDepth 100000 in
theorem e204_24 {L : Lo} {S : List Value} {h : Hp} {v : Nat} : Run 204 24 (some (.ref v) :: L) S h = Run 204 25 (some (.ref v) :: L) (.ref v :: S) h := Rg rfl
set_option maxRecDepth 100000 in
theorem e204_25 {L : Lo} {S : List Value} {h : Hp} : Run 204 25 L S h = Run 204 26 L (.int 0 :: S) h := Rg rfl
set_option maxRecDepth 100000 in
theorem e204_26 {L : Lo} {S : List Value} {h : Hp} {b : Nat} {v : Value} : Run 204 26 L (v :: .ref b :: S) h = (pf h 9 7 b v).bind fun h1 => Run 204 29 L S h1 := Rb rfl fun _ => rfl
set_option maxRecDepth 100000 in
theorem e204_29 {L : Lo} {S : List Value} {h : Hp} : Run 204 29 L S h = Run 204 30 L (.int 0 :: S) h := Rg rfl
set_option maxRecDepth 100000 in
theorem e204_30 {L : Lo} {S : List Value} {h : Hp} {x0 : Option Value} {y : Option Value} {v : Int32} : Run 204 30 (x0 :: y :: L) (.int v :: S) h = Run 204 31 (ck x0 :: some (.int v) :: L) S h := Rg rfl
set_option maxRecDepth 100000 in
theorem e204_31 {L : Lo} {S : List Value} {h : Hp} : Run 204 31 L S h = Run 204 32 L (.int 1 :: S) h := Rg rfl
set_option maxRecDepth 100000 in
theorem e204_32 {L : Lo} {S : List Value} {h : Hp} {x0 x1 : Option Value} {y : Option Value} {v : Int32} : Run 204 32 (x0 :: x1 :: y :: L) (.int v :: S) h = Run 204 33 (x0 :: ck x1 :: some (.int v) :: L) S h := Rg rfl
set_option maxRecDepth 100000 in
theorem e204_33 {L : Lo} {S : List Value} {h : Hp} {x0 x1 : Option Value} {v : Int32} : Run 204 33 (x0 :: x1 :: some (.int v) :: L) S h = Run 204 34 (x0 :: x1 :: some (.int v) :: L) (.int v :: S) h := Rg rfl
set_option maxRecDepth 100000 in
theorem e204_34 {L : Lo} {S : List Value} {h : Hp} {x : Int32} : Run 204 34 L (.int x :: S) h = if x = 0 then Run 204 75 L S h else Run 204 37 L S h := Rbr (c := cnd .eq x 0 = true) (off := 41) rfl rfl cnd_eq
set_option maxRecDepth 100000 in
theorem e204_37 {L : Lo} {S : List Value} {h : Hp} {v : Nat} : Run 204 37 (some (.ref v) :: L) S h = Run 204 38 (some (.ref v) :: L) (.ref v :: S) h := Rg rfl
set_option maxRecDepth 100000 in
theorem e204_38 {L : Lo} {S : List Value} {h : Hp} {b : Nat} : Run 204 38 L (.ref b :: S) h = (gf h 9 7 b).bind fun v => Run 204 41 L (v :: S) h := Rb rfl fun _ => rfl
set_option maxRecDepth 100000 in
theorem e204_41 {L : Lo} {S : List Value} {h : Hp} {v : Nat} : Run 204 41 (some (.ref v) :: L) S h = Run 204 42 (some (.ref v) :: L) (.ref v :: S) h := Rg rfl
set_option maxRecDepth 100000 in
theorem e204_42 {L : Lo} {S : List Value} {h : Hp} {b : Nat} : Run 204 42 L (.ref b :: S) h = (gf h 9 4 b).bind fun v => Run 204 45 L (v :: S) h := Rb rfl fun _ => rfl
set_option maxRecDepth 100000 in
theorem e204_45 {L : Lo} {S : List Value} {h : Hp} {x z : Int32} : Run 204 45 L (.int z :: .int x :: S) h = if z ≤ x then Run 204 75 L S h else Run 204 48 L S h := Rbr (c := cnd .ge x z = true) (off := 30) rfl rfl cnd_ge
set_option maxRecDepth 100000 in
theorem e204_48 {L : Lo} {S : List Value} {h : Hp} {v : Nat} : Run 204 48 (some (.ref v) :: L) S h = Run 204 49 (some (.ref v) :: L) (.ref v :: S) h := Rg rfl
set_option maxRecDepth 100000 in
theorem e204_49 {L : Lo} {h : Hp} {a0 : Nat} (hO : isO h a0 9 = true) : Run 204 49 L [.ref a0] h = (Run 200 0 [some (.ref a0), none, none] [] h).bind fun o => aft 204 49 52 L [] o := Rcv (c := 200) (As := []) (S' := []) (pc' := 52) 9 rfl hO
set_option maxRecDepth 100000 in
theorem e204_52 {L : Lo} {S : List Value} {h : Hp} {x : Int32} : Run 204 52 L (.int x :: S) h = if x = 0 then Run 204 75 L S h else Run 204 55 L S h := Rbr (c := cnd .eq x 0 = true) (off := 23) rfl rfl cnd_eq
set_option maxRecDepth 100000 in
theorem e204_55 {L : Lo} {S : List Value} {h : Hp} {v : Nat} : Run 204 55 (some (.ref v) :: L) S h = Run 204 56 (some (.ref v) :: L) (.ref v :: S) h := Rg rfl
set_option maxRecDepth 100000 in
theorem e204_56 {L : Lo} {h : Hp} {a0 : Nat} (hO : isO h a0 9 = true) : Run 204 56 L [.ref a0] h = (Run 202 0 [some (.ref a0)] [] h).bind fun o => aft 204 56 59 L [] o := Rcv (c := 202) (As := []) (S' := []) (pc' := 59) 9 rfl hO
set_option maxRecDepth 100000 in
theorem e204_59 {L : Lo} {S : List Value} {h : Hp} {x0 x1 : Option Value} {y : Option Value} {v : Int32} : Run 204 59 (x0 :: x1 :: y :: L) (.int v :: S) h = Run 204 60 (x0 :: ck x1 :: some (.int v) :: L) S h := Rg rfl
set_option maxRecDepth 100000 in
theorem e204_60 {L : Lo} {S : List Value} {h : Hp} {x0 x1 : Option Value} {v : Int32} : Run 204 60 (x0 :: x1 :: some (.int v) :: L) S h = Run 204 61 (x0 :: x1 :: some (.int v) :: L) (.int v :: S) h := Rg rfl
set_option maxRecDepth 100000 in
theorem e204_61 {L : Lo} {S : List Value} {h : Hp} {x : Int32} : Run 204 61 L (.int x :: S) h = if x = 0 then Run 204 33 L S h else Run 204 64 L S h := Rbr (c := cnd .eq x 0 = true) (off := (-28)) rfl rfl cnd_eq
set_option maxRecDepth 100000 in
theorem e204_64 {L : Lo} {S : List Value} {h : Hp} {v : Nat} : Run 204 64 (some (.ref v) :: L) S h = Run 204 65 (some (.ref v) :: L) (.ref v :: S) h := Rg rfl
set_option maxRecDepth 100000 in
theorem e204_65 {L : Lo} {h : Hp} {a0 : Nat} (hO : isO h a0 9 = true) : Run 204 65 L [.ref a0] h = (Run 203 0 [some (.ref a0)] [] h).bind fun o => aft 204 65 68 L [] o := Rcv (c := 203) (As := []) (S' := []) (pc' := 68) 9 rfl hO
set_option maxRecDepth 100000 in
theorem e204_68 {L : Lo} {S : List Value} {h : Hp} {x0 x1 x2 : Option Value} {y : Option Value} {v : Int32} : Run 204 68 (x0 :: x1 :: x2 :: y :: L) (.int v :: S) h = Run 204 69 (x0 :: x1 :: ck x2 :: some (.int v) :: L) S h := Rg rfl
set_option maxRecDepth 100000 in
theorem e204_69 {L : Lo} {S : List Value} {h : Hp} {x0 : Option Value} {v : Int32} : Run 204 69 (x0 :: some (.int v) :: L) S h = Run 204 72 (x0 :: some (.int (v + 1)) :: L) S h := Rg rfl
set_option maxRecDepth 100000 in
theorem e204_72 {L : Lo} {S : List Value} {h : Hp} : Run 204 72 L S h = Run 204 33 L S h := Rg rfl
set_option maxRecDepth 100000 in
theorem e204_75 {L : Lo} {S : List Value} {h : Hp} {x0 : Option Value} {v : Int32} : Run 204 75 (x0 :: some (.int v) :: L) S h = Run 204 76 (x0 :: some (.int v) :: L) (.int v :: S) h := Rg rfl
set_option maxRecDepth 100000 in
theorem e204_76 {L : Lo} {h : Hp} {x : Int32} : Run 204 76 L [.int x] h = some (.inl (some (.int x)), h) := Rd (if_pos (c := narrow .int (.int x) = .int x) rfl)
set_option maxRecDepth 100000 in
theorem e205_0 {L : Lo} {S : List Value} {h : Hp} {v : Nat} : Run 205 0 (some (.ref v) :: L) S h = Run 205 1 (some (.ref v) :: L) (.ref v :: S) h := Rg rfl
set_option maxRecDepth 100000 in
theorem e205_1 {L : Lo} {S : List Value} {h : Hp} {v : Nat} : Run 205 1 (some (.ref v) :: L) S h = Run 205 2 (some (.ref v) :: L) (.ref v :: S) h := Rg rfl
set_option maxRecDepth 100000 in
theorem e205_2 {L : Lo} {S : List Value} {h : Hp} {b : Nat} : Run 205 2 L (.ref b :: S) h = (gf h 9 2 b).bind fun v => Run 205 5 L (v :: S) h := Rb rfl fun _ => rfl
set_option maxRecDepth 100000 in
theorem e205_5 {L : Lo} {S : List Value} {h : Hp} {x : Int32} : Run 205 5 L (.int x :: S) h = if x = 0 then Run 205 8 L S h else Run 205 12 L S h := RbrN (c := cnd .ne x 0 = true) (off := 7) rfl rfl cnd_ne
set_option maxRecDepth 100000 in
theorem e205_8 {L : Lo} {S : List Value} {h : Hp} : Run 205 8 L S h = Run 205 9 L (.int 1 :: S) h := Rg rfl
set_option maxRecDepth 100000 in
theorem e205_9 {L : Lo} {S : List Value} {h : Hp} : Run 205 9 L S h = Run 205 13 L S h := Rg rfl
set_option maxRecDepth 100000 in
theorem e205_12 {L : Lo} {S : List Value} {h : Hp} : Run 205 12 L S h = Run 205 13 L (.int 0 :: S) h := Rg rfl
set_option maxRecDepth 100000 in
theorem e205_13 {L : Lo} {S : List Value} {h : Hp} {b : Nat} {v : Value} : Run 205 13 L (v :: .ref b :: S) h = (pf h 9 5 b v).bind fun h1 => Run 205 16 L S h1 := Rb rfl fun _ => rfl
set_option maxRecDepth 100000 in
theorem e205_16 {L : Lo} {S : List Value} {h : Hp} {v : Nat} : Run 205 16 (some (.ref v) :: L) S h = Run 205 17 (some (.ref v) :: L) (.ref v :: S) h := Rg rfl
set_option maxRecDepth 100000 in
theorem e205_17 {L : Lo} {S : List Value} {h : Hp} {b : Nat} : Run 205 17 L (.ref b :: S) h = (gf h 9 5 b).bind fun v => Run 205 20 L (v :: S) h := Rb rfl fun _ => rfl
set_option maxRecDepth 100000 in
theorem e205_20 {L : Lo} {S : List Value} {h : Hp} {x : Int32} : Run 205 20 L (.int x :: S) h = if x = 0 then Run 205 25 L S h else Run 205 23 L S h := Rbr (c := cnd .eq x 0 = true) (off := 5) rfl rfl cnd_eq
set_option maxRecDepth 100000 in
theorem e205_23 {L : Lo} {S : List Value} {h : Hp} : Run 205 23 L S h = Run 205 24 L (.int 0 :: S) h := Rg rfl
set_option maxRecDepth 100000 in
theorem e205_24 {L : Lo} {h : Hp} {x : Int32} : Run 205 24 L [.int x] h = some (.inl (some (.int x)), h) := Rd (if_pos (c := narrow .int (.int x) = .int x) rfl)
set_option maxRecDepth 100000 in
theorem e205_25 {L : Lo} {S : List Value} {h : Hp} {v : Nat} : Run 205 25 (some (.ref v) :: L) S h = Run 205 26 (some (.ref v) :: L) (.ref v :: S) h := Rg rfl
set_option maxRecDepth 100000 in
theorem e205_26 {L : Lo} {S : List Value} {h : Hp} {v : Nat} : Run 205 26 L (.ref v :: S) h = Run 205 27 L (.ref v :: .ref v :: S) h := Rg rfl
set_option maxRecDepth 100000 in
theorem e205_27 {L : Lo} {S : List Value} {h : Hp} {b : Nat} : Run 205 27 L (.ref b :: S) h = (gf h 9 2 b).bind fun v => Run 205 30 L (v :: S) h := Rb rfl fun _ => rfl
set_option maxRecDepth 100000 in
theorem e205_30 {L : Lo} {S : List Value} {h : Hp} : Run 205 30 L S h = Run 205 31 L (.int 1 :: S) h := Rg rfl
set_option maxRecDepth 100000 in
theorem e205_31 {L : Lo} {S : List Value} {h : Hp} {x z : Int32} : Run 205 31 L (.int z :: .int x :: S) h = Run 205 32 L (.int (x - z) :: S) h := Rg rfl
set_option maxRecDepth 100000 in
theorem e205_32 {L : Lo} {S : List Value} {h : Hp} {b : Nat} {v : Value} : Run 205 32 L (v :: .ref b :: S) h = (pf h 9 2 b v).bind fun h1 => Run 205 35 L S h1 := Rb rfl fun _ => rfl
set_option maxRecDepth 100000 in
theorem e205_35 {L : Lo} {S : List Value} {h : Hp} : Run 205 35 L S h = Run 205 36 L (.int 0 :: S) h := Rg rfl
set_option maxRecDepth 100000 in
theorem e205_36 {L : Lo} {S : List Value} {h : Hp} {x0 : Option Value} {y : Option Value} {v : Int32} : Run 205 36 (x0 :: y :: L) (.int v :: S) h = Run 205 37 (ck x0 :: some (.int v) :: L) S h := Rg rfl
set_option maxRecDepth 100000 in
theorem e205_37 {L : Lo} {S : List Value} {h : Hp} {x0 : Option Value} {v : Int32} : Run 205 37 (x0 :: some (.int v) :: L) S h = Run 205 38 (x0 :: some (.int v) :: L) (.int v :: S) h := Rg rfl
set_option maxRecDepth 100000 in
theorem e205_38 {L : Lo} {S : List Value} {h : Hp} : Run 205 38 L S h = Run 205 41 L (.int 270 :: S) h := Rg rfl
set_option maxRecDepth 100000 in
theorem e205_41 {L : Lo} {S : List Value} {h : Hp} {x z : Int32} : Run 205 41 L (.int z :: .int x :: S) h = if z ≤ x then Run 205 71 L S h else Run 205 44 L S h := Rbr (c := cnd .ge x z = true) (off := 30) rfl rfl cnd_ge
set_option maxRecDepth 100000 in
theorem e205_44 {L : Lo} {S : List Value} {h : Hp} {v : Nat} : Run 205 44 (some (.ref v) :: L) S h = Run 205 45 (some (.ref v) :: L) (.ref v :: S) h := Rg rfl
set_option maxRecDepth 100000 in
theorem e205_45 {L : Lo} {S : List Value} {h : Hp} {b : Nat} : Run 205 45 L (.ref b :: S) h = (gf h 9 0 b).bind fun v => Run 205 48 L (v :: S) h := Rb rfl fun _ => rfl
set_option maxRecDepth 100000 in
theorem e205_48 {L : Lo} {S : List Value} {h : Hp} {x0 : Option Value} {v : Int32} : Run 205 48 (x0 :: some (.int v) :: L) S h = Run 205 49 (x0 :: some (.int v) :: L) (.int v :: S) h := Rg rfl
set_option maxRecDepth 100000 in
theorem e205_49 {L : Lo} {S : List Value} {h : Hp} {v : Nat} : Run 205 49 (some (.ref v) :: L) S h = Run 205 50 (some (.ref v) :: L) (.ref v :: S) h := Rg rfl
set_option maxRecDepth 100000 in
theorem e205_50 {L : Lo} {S : List Value} {h : Hp} {b : Nat} : Run 205 50 L (.ref b :: S) h = (gf h 9 1 b).bind fun v => Run 205 53 L (v :: S) h := Rb rfl fun _ => rfl
set_option maxRecDepth 100000 in
theorem e205_53 {L : Lo} {S : List Value} {h : Hp} : Run 205 53 L S h = Run 205 56 L (.int 270 :: S) h := Rg rfl
set_option maxRecDepth 100000 in
theorem e205_56 {L : Lo} {S : List Value} {h : Hp} {v : Nat} : Run 205 56 (some (.ref v) :: L) S h = Run 205 57 (some (.ref v) :: L) (.ref v :: S) h := Rg rfl
set_option maxRecDepth 100000 in
theorem e205_57 {L : Lo} {S : List Value} {h : Hp} {b : Nat} : Run 205 57 L (.ref b :: S) h = (gf h 9 2 b).bind fun v => Run 205 60 L (v :: S) h := Rb rfl fun _ => rfl
set_option maxRecDepth 100000 in
theorem e205_60 {L : Lo} {S : List Value} {h : Hp} {x z : Int32} : Run 205 60 L (.int z :: .int x :: S) h = Run 205 61 L (.int (x * z) :: S) h := Rg rfl
set_option maxRecDepth 100000 in
theorem e205_61 {L : Lo} {S : List Value} {h : Hp} {x0 : Option Value} {v : Int32} : Run 205 61 (x0 :: some (.int v) :: L) S h = Run 205 62 (x0 :: some (.int v) :: L) (.int v :: S) h := Rg rfl
set_option maxRecDepth 100000 in
theorem e205_62 {L : Lo} {S : List Value} {h : Hp} {x z : Int32} : Run 205 62 L (.int z :: .int x :: S) h = Run 205 63 L (.int (x + z) :: S) h := Rg rfl
set_option maxRecDepth 100000 in
theorem e205_63 {L : Lo} {S : List Value} {h : Hp} {i : Int32} {b : Nat} : Run 205 63 L (.int i :: .ref b :: S) h = (gaI h b i).bind fun v => Run 205 64 L (.int v :: S) h := Rb rfl fun _ => rfl
set_option maxRecDepth 100000 in
theorem e205_64 {L : Lo} {S : List Value} {h : Hp} {v : Int32} {i : Int32} {b : Nat} : Run 205 64 L (.int v :: .int i :: .ref b :: S) h = (paI h b i v).bind fun h1 => Run 205 65 L S h1 := Rb rfl fun _ => rfl
set_option maxRecDepth 100000 in
theorem e205_65 {L : Lo} {S : List Value} {h : Hp} {x0 : Option Value} {v : Int32} : Run 205 65 (x0 :: some (.int v) :: L) S h = Run 205 68 (x0 :: some (.int (v + 1)) :: L) S h := Rg rfl
set_option maxRecDepth 100000 in
theorem e205_68 {L : Lo} {S : List Value} {h : Hp} : Run 205 68 L S h = Run 205 37 L S h := Rg rfl
set_option maxRecDepth 100000 in
theorem e205_71 {L : Lo} {S : List Value} {h : Hp} {v : Nat} : Run 205 71 (some (.ref v) :: L) S h = Run 205 72 (some (.ref v) :: L) (.ref v :: S) h := Rg rfl
set_option maxRecDepth 100000 in
theorem e205_72 {L : Lo} {S : List Value} {h : Hp} {b : Nat} : Run 205 72 L (.ref b :: S) h = (gf h 9 2 b).bind fun v => Run 205 75 L (v :: S) h := Rb rfl fun _ => rfl
set_option maxRecDepth 100000 in
theorem e205_75 {L : Lo} {h : Hp} {x : Int32} : Run 205 75 L [.int x] h = some (.inl (some (.int x)), h) := Rd (if_pos (c := narrow .int (.int x) = .int x) rfl)
set_option maxRecDepth 100000 in
theorem e206_0 {L : Lo} {S : List Value} {h : Hp} {v : Nat} : Run 206 0 (some (.ref v) :: L) S h = Run 206 1 (some (.ref v) :: L) (.ref v :: S) h := Rg rfl
set_option maxRecDepth 100000 in
theorem e206_1 {L : Lo} {S : List Value} {h : Hp} : Run 206 1 L S h = Run 206 4 L (.long (31 : Int64) :: S) h := Rg rfl
set_option maxRecDepth 100000 in
theorem e206_4 {L : Lo} {S : List Value} {h : Hp} {v : Nat} : Run 206 4 (some (.ref v) :: L) S h = Run 206 5 (some (.ref v) :: L) (.ref v :: S) h := Rg rfl
set_option maxRecDepth 100000 in
theorem e206_5 {L : Lo} {S : List Value} {h : Hp} {b : Nat} : Run 206 5 L (.ref b :: S) h = (gf h 9 10 b).bind fun v => Run 206 8 L (v :: S) h := Rb rfl fun _ => rfl
set_option maxRecDepth 100000 in
theorem e206_8 {L : Lo} {S : List Value} {h : Hp} {x z : Int64} : Run 206 8 L (.long z :: .long x :: S) h = Run 206 9 L (.long (x * z) :: S) h := Rg rfl
set_option maxRecDepth 100000 in
theorem e206_9 {L : Lo} {S : List Value} {h : Hp} {x0 : Option Value} {v : Int64} : Run 206 9 (x0 :: some (.long v) :: L) S h = Run 206 10 (x0 :: some (.long v) :: L) (.long v :: S) h := Rg rfl
set_option maxRecDepth 100000 in
theorem e206_10 {L : Lo} {S : List Value} {h : Hp} {x z : Int64} : Run 206 10 L (.long z :: .long x :: S) h = Run 206 11 L (.long (x + z) :: S) h := Rg rfl
set_option maxRecDepth 100000 in
theorem e206_11 {L : Lo} {S : List Value} {h : Hp} {b : Nat} {v : Value} : Run 206 11 L (v :: .ref b :: S) h = (pf h 9 10 b v).bind fun h1 => Run 206 14 L S h1 := Rb rfl fun _ => rfl
set_option maxRecDepth 100000 in
theorem e206_14 {L : Lo} {h : Hp} : Run 206 14 L [] h = some (.inl none, h) := Rd rfl
set_option maxRecDepth 100000 in
theorem e207_0 {L : Lo} {S : List Value} {h : Hp} {v : Nat} : Run 207 0 (some (.ref v) :: L) S h = Run 207 1 (some (.ref v) :: L) (.ref v :: S) h := Rg rfl
set_option maxRecDepth 100000 in
theorem e207_1 {L : Lo} {S : List Value} {h : Hp} : Run 207 1 L S h = Run 207 2 L (.int 0 :: S) h := Rg rfl
set_option maxRecDepth 100000 in
theorem e207_2 {L : Lo} {S : List Value} {h : Hp} {b : Nat} {v : Value} : Run 207 2 L (v :: .ref b :: S) h = (pf h 9 5 b v).bind fun h1 => Run 207 5 L S h1 := Rb rfl fun _ => rfl
set_option maxRecDepth 100000 in
theorem e207_5 {L : Lo} {S : List Value} {h : Hp} {v : Nat} : Run 207 5 (some (.ref v) :: L) S h = Run 207 6 (some (.ref v) :: L) (.ref v :: S) h := Rg rfl
set_option maxRecDepth 100000 in
theorem e207_6 {L : Lo} {S : List Value} {h : Hp} : Run 207 6 L S h = Run 207 9 L (.long (3347 : Int64) :: S) h := Rg rfl
set_option maxRecDepth 100000 in
theorem e207_9 {L : Lo} {S : List Value} {h : Hp} {b : Nat} {v : Value} : Run 207 9 L (v :: .ref b :: S) h = (pf h 9 10 b v).bind fun h1 => Run 207 12 L S h1 := Rb rfl fun _ => rfl
set_option maxRecDepth 100000 in
theorem e207_12 {L : Lo} {S : List Value} {h : Hp} {v : Nat} : Run 207 12 (some (.ref v) :: L) S h = Run 207 13 (some (.ref v) :: L) (.ref v :: S) h := Rg rfl
set_option maxRecDepth 100000 in
theorem e207_13 {L : Lo} {S : List Value} {h : Hp} {v : Nat} : Run 207 13 (some (.ref v) :: L) S h = Run 207 14 (some (.ref v) :: L) (.ref v :: S) h := Rg rfl
set_option maxRecDepth 100000 in
theorem e207_14 {L : Lo} {S : List Value} {h : Hp} {b : Nat} : Run 207 14 L (.ref b :: S) h = (gf h 9 4 b).bind fun v => Run 207 17 L (v :: S) h := Rb rfl fun _ => rfl
set_option maxRecDepth 100000 in
theorem e207_17 {L : Lo} {S : List Value} {h : Hp} {x : Int32} : Run 207 17 L (.int x :: S) h = Run 207 18 L (.long x.toInt64 :: S) h := Rg rfl
set_option maxRecDepth 100000 in
theorem e207_18 {L : Lo} {h : Hp} {a1 : Int64} {a0 : Nat} (hO : isO h a0 9 = true) : Run 207 18 L [.long a1, .ref a0] h = (Run 206 0 [some (.ref a0), some (.long a1), none] [] h).bind fun o => aft 207 18 21 L [] o := Rcv (c := 206) (As := [.long a1]) (S' := []) (pc' := 21) 9 rfl hO
set_option maxRecDepth 100000 in
theorem e207_21 {L : Lo} {S : List Value} {h : Hp} : Run 207 21 L S h = Run 207 22 L (.int 0 :: S) h := Rg rfl
set_option maxRecDepth 100000 in
theorem e207_22 {L : Lo} {S : List Value} {h : Hp} {x0 : Option Value} {y : Option Value} {v : Int32} : Run 207 22 (x0 :: y :: L) (.int v :: S) h = Run 207 23 (ck x0 :: some (.int v) :: L) S h := Rg rfl
set_option maxRecDepth 100000 in
theorem e207_23 {L : Lo} {S : List Value} {h : Hp} {x0 : Option Value} {v : Int32} : Run 207 23 (x0 :: some (.int v) :: L) S h = Run 207 24 (x0 :: some (.int v) :: L) (.int v :: S) h := Rg rfl
set_option maxRecDepth 100000 in
theorem e207_24 {L : Lo} {S : List Value} {h : Hp} : Run 207 24 L S h = Run 207 26 L (.int 10 :: S) h := Rg rfl
set_option maxRecDepth 100000 in
theorem e207_26 {L : Lo} {S : List Value} {h : Hp} {x z : Int32} : Run 207 26 L (.int z :: .int x :: S) h = if z ≤ x then Run 207 45 L S h else Run 207 29 L S h := Rbr (c := cnd .ge x z = true) (off := 19) rfl rfl cnd_ge
set_option maxRecDepth 100000 in
theorem e207_29 {L : Lo} {S : List Value} {h : Hp} {v : Nat} : Run 207 29 (some (.ref v) :: L) S h = Run 207 30 (some (.ref v) :: L) (.ref v :: S) h := Rg rfl
set_option maxRecDepth 100000 in
theorem e207_30 {L : Lo} {S : List Value} {h : Hp} {v : Nat} : Run 207 30 (some (.ref v) :: L) S h = Run 207 31 (some (.ref v) :: L) (.ref v :: S) h := Rg rfl
set_option maxRecDepth 100000 in
theorem e207_31 {L : Lo} {S : List Value} {h : Hp} {x0 : Option Value} {v : Int32} : Run 207 31 (x0 :: some (.int v) :: L) S h = Run 207 32 (x0 :: some (.int v) :: L) (.int v :: S) h := Rg rfl
set_option maxRecDepth 100000 in
theorem e207_32 {L : Lo} {h : Hp} {a2 : Int32} {a1 : Nat} {a0 : Nat} (hO : isO h a1 9 = true) : Run 207 32 L [.int a2, .ref a1, .ref a0] h = (Run 151 0 [some (.ref a1), some (.int a2)] [] h).bind fun o => aft 207 32 35 L [.ref a0] o := Rcv (c := 151) (As := [.int a2]) (S' := [.ref a0]) (pc' := 35) 9 rfl hO
set_option maxRecDepth 100000 in
theorem e207_35 {L : Lo} {S : List Value} {h : Hp} {x : Int32} : Run 207 35 L (.int x :: S) h = Run 207 36 L (.long x.toInt64 :: S) h := Rg rfl
set_option maxRecDepth 100000 in
theorem e207_36 {L : Lo} {h : Hp} {a1 : Int64} {a0 : Nat} (hO : isO h a0 9 = true) : Run 207 36 L [.long a1, .ref a0] h = (Run 206 0 [some (.ref a0), some (.long a1), none] [] h).bind fun o => aft 207 36 39 L [] o := Rcv (c := 206) (As := [.long a1]) (S' := []) (pc' := 39) 9 rfl hO
set_option maxRecDepth 100000 in
theorem e207_39 {L : Lo} {S : List Value} {h : Hp} {x0 : Option Value} {v : Int32} : Run 207 39 (x0 :: some (.int v) :: L) S h = Run 207 42 (x0 :: some (.int (v + 1)) :: L) S h := Rg rfl
set_option maxRecDepth 100000 in
theorem e207_42 {L : Lo} {S : List Value} {h : Hp} : Run 207 42 L S h = Run 207 23 L S h := Rg rfl
set_option maxRecDepth 100000 in
theorem e207_45 {L : Lo} {S : List Value} {h : Hp} : Run 207 45 L S h = Run 207 46 L (.int 0 :: S) h := Rg rfl
set_option maxRecDepth 100000 in
theorem e207_46 {L : Lo} {S : List Value} {h : Hp} {x0 : Option Value} {y : Option Value} {v : Int32} : Run 207 46 (x0 :: y :: L) (.int v :: S) h = Run 207 47 (ck x0 :: some (.int v) :: L) S h := Rg rfl
set_option maxRecDepth 100000 in
theorem e207_47 {L : Lo} {S : List Value} {h : Hp} {x0 : Option Value} {v : Int32} : Run 207 47 (x0 :: some (.int v) :: L) S h = Run 207 48 (x0 :: some (.int v) :: L) (.int v :: S) h := Rg rfl
set_option maxRecDepth 100000 in
theorem e207_48 {L : Lo} {S : List Value} {h : Hp} {v : Nat} : Run 207 48 (some (.ref v) :: L) S h = Run 207 49 (some (.ref v) :: L) (.ref v :: S) h := Rg rfl
set_option maxRecDepth 100000 in
theorem e207_49 {L : Lo} {S : List Value} {h : Hp} {b : Nat} : Run 207 49 L (.ref b :: S) h = (gf h 9 0 b).bind fun v => Run 207 52 L (v :: S) h := Rb rfl fun _ => rfl
set_option maxRecDepth 100000 in
theorem e207_52 {L : Lo} {S : List Value} {h : Hp} : Run 207 52 L S h = Run 207 53 L (.int 5 :: S) h := Rg rfl
set_option maxRecDepth 100000 in
theorem e207_53 {L : Lo} {S : List Value} {h : Hp} {i : Int32} {b : Nat} : Run 207 53 L (.int i :: .ref b :: S) h = (gaI h b i).bind fun v => Run 207 54 L (.int v :: S) h := Rb rfl fun _ => rfl
set_option maxRecDepth 100000 in
theorem e207_54 {L : Lo} {S : List Value} {h : Hp} {x z : Int32} : Run 207 54 L (.int z :: .int x :: S) h = if z ≤ x then Run 207 98 L S h else Run 207 57 L S h := Rbr (c := cnd .ge x z = true) (off := 44) rfl rfl cnd_ge
set_option maxRecDepth 100000 in
theorem e207_57 {L : Lo} {S : List Value} {h : Hp} : Run 207 57 L S h = Run 207 58 L (.int 0 :: S) h := Rg rfl
set_option maxRecDepth 100000 in
theorem e207_58 {L : Lo} {S : List Value} {h : Hp} {x0 x1 : Option Value} {y : Option Value} {v : Int32} : Run 207 58 (x0 :: x1 :: y :: L) (.int v :: S) h = Run 207 59 (x0 :: ck x1 :: some (.int v) :: L) S h := Rg rfl
set_option maxRecDepth 100000 in
theorem e207_59 {L : Lo} {S : List Value} {h : Hp} {x0 x1 : Option Value} {v : Int32} : Run 207 59 (x0 :: x1 :: some (.int v) :: L) S h = Run 207 60 (x0 :: x1 :: some (.int v) :: L) (.int v :: S) h := Rg rfl
set_option maxRecDepth 100000 in
theorem e207_60 {L : Lo} {S : List Value} {h : Hp} : Run 207 60 L S h = Run 207 62 L (.int 15 :: S) h := Rg rfl
set_option maxRecDepth 100000 in
theorem e207_62 {L : Lo} {S : List Value} {h : Hp} {x z : Int32} : Run 207 62 L (.int z :: .int x :: S) h = if z ≤ x then Run 207 82 L S h else Run 207 65 L S h := Rbr (c := cnd .ge x z = true) (off := 20) rfl rfl cnd_ge
set_option maxRecDepth 100000 in
theorem e207_65 {L : Lo} {S : List Value} {h : Hp} {v : Nat} : Run 207 65 (some (.ref v) :: L) S h = Run 207 66 (some (.ref v) :: L) (.ref v :: S) h := Rg rfl
set_option maxRecDepth 100000 in
theorem e207_66 {L : Lo} {S : List Value} {h : Hp} {v : Nat} : Run 207 66 (some (.ref v) :: L) S h = Run 207 67 (some (.ref v) :: L) (.ref v :: S) h := Rg rfl
set_option maxRecDepth 100000 in
theorem e207_67 {L : Lo} {S : List Value} {h : Hp} {x0 : Option Value} {v : Int32} : Run 207 67 (x0 :: some (.int v) :: L) S h = Run 207 68 (x0 :: some (.int v) :: L) (.int v :: S) h := Rg rfl
set_option maxRecDepth 100000 in
theorem e207_68 {L : Lo} {S : List Value} {h : Hp} {x0 x1 : Option Value} {v : Int32} : Run 207 68 (x0 :: x1 :: some (.int v) :: L) S h = Run 207 69 (x0 :: x1 :: some (.int v) :: L) (.int v :: S) h := Rg rfl
set_option maxRecDepth 100000 in
theorem e207_69 {L : Lo} {h : Hp} {a3 : Int32} {a2 : Int32} {a1 : Nat} {a0 : Nat} (hO : isO h a1 9 = true) : Run 207 69 L [.int a3, .int a2, .ref a1, .ref a0] h = (Run 153 0 [some (.ref a1), some (.int a2), some (.int a3)] [] h).bind fun o => aft 207 69 72 L [.ref a0] o := Rcv (c := 153) (As := [.int a2, .int a3]) (S' := [.ref a0]) (pc' := 72) 9 rfl hO
set_option maxRecDepth 100000 in
theorem e207_72 {L : Lo} {S : List Value} {h : Hp} {x : Int32} : Run 207 72 L (.int x :: S) h = Run 207 73 L (.long x.toInt64 :: S) h := Rg rfl
set_option maxRecDepth 100000 in
theorem e207_73 {L : Lo} {h : Hp} {a1 : Int64} {a0 : Nat} (hO : isO h a0 9 = true) : Run 207 73 L [.long a1, .ref a0] h = (Run 206 0 [some (.ref a0), some (.long a1), none] [] h).bind fun o => aft 207 73 76 L [] o := Rcv (c := 206) (As := [.long a1]) (S' := []) (pc' := 76) 9 rfl hO
set_option maxRecDepth 100000 in
theorem e207_76 {L : Lo} {S : List Value} {h : Hp} {x0 x1 : Option Value} {v : Int32} : Run 207 76 (x0 :: x1 :: some (.int v) :: L) S h = Run 207 79 (x0 :: x1 :: some (.int (v + 1)) :: L) S h := Rg rfl
set_option maxRecDepth 100000 in
theorem e207_79 {L : Lo} {S : List Value} {h : Hp} : Run 207 79 L S h = Run 207 59 L S h := Rg rfl
set_option maxRecDepth 100000 in
theorem e207_82 {L : Lo} {S : List Value} {h : Hp} {v : Nat} : Run 207 82 (some (.ref v) :: L) S h = Run 207 83 (some (.ref v) :: L) (.ref v :: S) h := Rg rfl
set_option maxRecDepth 100000 in
theorem e207_83 {L : Lo} {S : List Value} {h : Hp} {v : Nat} : Run 207 83 (some (.ref v) :: L) S h = Run 207 84 (some (.ref v) :: L) (.ref v :: S) h := Rg rfl
set_option maxRecDepth 100000 in
theorem e207_84 {L : Lo} {S : List Value} {h : Hp} {x0 : Option Value} {v : Int32} : Run 207 84 (x0 :: some (.int v) :: L) S h = Run 207 85 (x0 :: some (.int v) :: L) (.int v :: S) h := Rg rfl
set_option maxRecDepth 100000 in
theorem e207_85 {L : Lo} {h : Hp} {a2 : Int32} {a1 : Nat} {a0 : Nat} (hO : isO h a1 9 = true) : Run 207 85 L [.int a2, .ref a1, .ref a0] h = (Run 189 0 [some (.ref a1), some (.int a2), none, none] [] h).bind fun o => aft 207 85 88 L [.ref a0] o := Rcv (c := 189) (As := [.int a2]) (S' := [.ref a0]) (pc' := 88) 9 rfl hO
set_option maxRecDepth 100000 in
theorem e207_88 {L : Lo} {S : List Value} {h : Hp} {x : Int32} : Run 207 88 L (.int x :: S) h = Run 207 89 L (.long x.toInt64 :: S) h := Rg rfl
set_option maxRecDepth 100000 in
theorem e207_89 {L : Lo} {h : Hp} {a1 : Int64} {a0 : Nat} (hO : isO h a0 9 = true) : Run 207 89 L [.long a1, .ref a0] h = (Run 206 0 [some (.ref a0), some (.long a1), none] [] h).bind fun o => aft 207 89 92 L [] o := Rcv (c := 206) (As := [.long a1]) (S' := []) (pc' := 92) 9 rfl hO
set_option maxRecDepth 100000 in
theorem e207_92 {L : Lo} {S : List Value} {h : Hp} {x0 : Option Value} {v : Int32} : Run 207 92 (x0 :: some (.int v) :: L) S h = Run 207 95 (x0 :: some (.int (v + 1)) :: L) S h := Rg rfl
set_option maxRecDepth 100000 in
theorem e207_95 {L : Lo} {S : List Value} {h : Hp} : Run 207 95 L S h = Run 207 47 L S h := Rg rfl
set_option maxRecDepth 100000 in
theorem e207_98 {L : Lo} {S : List Value} {h : Hp} : Run 207 98 L S h = Run 207 99 L (.int 0 :: S) h := Rg rfl
set_option maxRecDepth 100000 in
theorem e207_99 {L : Lo} {S : List Value} {h : Hp} {x0 : Option Value} {y : Option Value} {v : Int32} : Run 207 99 (x0 :: y :: L) (.int v :: S) h = Run 207 100 (ck x0 :: some (.int v) :: L) S h := Rg rfl
set_option maxRecDepth 100000 in
theorem e207_100 {L : Lo} {S : List Value} {h : Hp} {x0 : Option Value} {v : Int32} : Run 207 100 (x0 :: some (.int v) :: L) S h = Run 207 101 (x0 :: some (.int v) :: L) (.int v :: S) h := Rg rfl
set_option maxRecDepth 100000 in
theorem e207_101 {L : Lo} {S : List Value} {h : Hp} {v : Nat} : Run 207 101 (some (.ref v) :: L) S h = Run 207 102 (some (.ref v) :: L) (.ref v :: S) h := Rg rfl
set_option maxRecDepth 100000 in
theorem e207_102 {L : Lo} {h : Hp} {a1 : Nat} {a0 : Int32} (hO : isO h a1 9 = true) : Run 207 102 L [.ref a1, .int a0] h = (Run 122 0 [some (.ref a1)] [] h).bind fun o => aft 207 102 105 L [.int a0] o := Rcv (c := 122) (As := []) (S' := [.int a0]) (pc' := 105) 9 rfl hO
set_option maxRecDepth 100000 in
theorem e207_105 {L : Lo} {S : List Value} {h : Hp} {x z : Int32} : Run 207 105 L (.int z :: .int x :: S) h = if z ≤ x then Run 207 124 L S h else Run 207 108 L S h := Rbr (c := cnd .ge x z = true) (off := 19) rfl rfl cnd_ge
set_option maxRecDepth 100000 in
theorem e207_108 {L : Lo} {S : List Value} {h : Hp} {v : Nat} : Run 207 108 (some (.ref v) :: L) S h = Run 207 109 (some (.ref v) :: L) (.ref v :: S) h := Rg rfl
set_option maxRecDepth 100000 in
theorem e207_109 {L : Lo} {S : List Value} {h : Hp} {v : Nat} : Run 207 109 (some (.ref v) :: L) S h = Run 207 110 (some (.ref v) :: L) (.ref v :: S) h := Rg rfl
set_option maxRecDepth 100000 in
theorem e207_110 {L : Lo} {S : List Value} {h : Hp} {x0 : Option Value} {v : Int32} : Run 207 110 (x0 :: some (.int v) :: L) S h = Run 207 111 (x0 :: some (.int v) :: L) (.int v :: S) h := Rg rfl
set_option maxRecDepth 100000 in
theorem e207_111 {L : Lo} {h : Hp} {a2 : Int32} {a1 : Nat} {a0 : Nat} (hO : isO h a1 9 = true) : Run 207 111 L [.int a2, .ref a1, .ref a0] h = (Run 132 0 [some (.ref a1), some (.int a2)] [] h).bind fun o => aft 207 111 114 L [.ref a0] o := Rcv (c := 132) (As := [.int a2]) (S' := [.ref a0]) (pc' := 114) 9 rfl hO
set_option maxRecDepth 100000 in
theorem e207_114 {L : Lo} {S : List Value} {h : Hp} {x : Int32} : Run 207 114 L (.int x :: S) h = Run 207 115 L (.long x.toInt64 :: S) h := Rg rfl
set_option maxRecDepth 100000 in
theorem e207_115 {L : Lo} {h : Hp} {a1 : Int64} {a0 : Nat} (hO : isO h a0 9 = true) : Run 207 115 L [.long a1, .ref a0] h = (Run 206 0 [some (.ref a0), some (.long a1), none] [] h).bind fun o => aft 207 115 118 L [] o := Rcv (c := 206) (As := [.long a1]) (S' := []) (pc' := 118) 9 rfl hO
set_option maxRecDepth 100000 in
theorem e207_118 {L : Lo} {S : List Value} {h : Hp} {x0 : Option Value} {v : Int32} : Run 207 118 (x0 :: some (.int v) :: L) S h = Run 207 121 (x0 :: some (.int (v + 1)) :: L) S h := Rg rfl
set_option maxRecDepth 100000 in
theorem e207_121 {L : Lo} {S : List Value} {h : Hp} : Run 207 121 L S h = Run 207 100 L S h := Rg rfl
set_option maxRecDepth 100000 in
theorem e207_124 {L : Lo} {S : List Value} {h : Hp} {v : Nat} : Run 207 124 (some (.ref v) :: L) S h = Run 207 125 (some (.ref v) :: L) (.ref v :: S) h := Rg rfl
set_option maxRecDepth 100000 in
theorem e207_125 {L : Lo} {S : List Value} {h : Hp} {v : Nat} : Run 207 125 (some (.ref v) :: L) S h = Run 207 126 (some (.ref v) :: L) (.ref v :: S) h := Rg rfl
set_option maxRecDepth 100000 in
theorem e207_126 {L : Lo} {S : List Value} {h : Hp} {b : Nat} : Run 207 126 L (.ref b :: S) h = (gf h 9 2 b).bind fun v => Run 207 129 L (v :: S) h := Rb rfl fun _ => rfl
set_option maxRecDepth 100000 in
theorem e207_129 {L : Lo} {S : List Value} {h : Hp} {x : Int32} : Run 207 129 L (.int x :: S) h = Run 207 130 L (.long x.toInt64 :: S) h := Rg rfl
set_option maxRecDepth 100000 in
theorem e207_130 {L : Lo} {h : Hp} {a1 : Int64} {a0 : Nat} (hO : isO h a0 9 = true) : Run 207 130 L [.long a1, .ref a0] h = (Run 206 0 [some (.ref a0), some (.long a1), none] [] h).bind fun o => aft 207 130 133 L [] o := Rcv (c := 206) (As := [.long a1]) (S' := []) (pc' := 133) 9 rfl hO
set_option maxRecDepth 100000 in
theorem e207_133 {L : Lo} {S : List Value} {h : Hp} {v : Nat} : Run 207 133 (some (.ref v) :: L) S h = Run 207 134 (some (.ref v) :: L) (.ref v :: S) h := Rg rfl
set_option maxRecDepth 100000 in
theorem e207_134 {L : Lo} {S : List Value} {h : Hp} {b : Nat} : Run 207 134 L (.ref b :: S) h = (gf h 9 10 b).bind fun v => Run 207 137 L (v :: S) h := Rb rfl fun _ => rfl
set_option maxRecDepth 100000 in
theorem e207_137 {L : Lo} {h : Hp} {x : Int64} : Run 207 137 L [.long x] h = some (.inl (some (.long x)), h) := Rd rfl
