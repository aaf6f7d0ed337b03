set_option maxRecDepth 100000 in
theorem e119_0 {L : Lo} {S : List Value} {h : Hp} {x0 : Option Value} {v : Int32} : Run 119 0 (x0 :: some (.int v) :: L) S h = Run 119 1 (x0 :: some (.int v) :: L) (.int v :: S) h := Rg rfl
set_option maxRecDepth 100000 in
theorem e119_1 {L : Lo} {S : List Value} {h : Hp} {v : Nat} : Run 119 1 (some (.ref v) :: L) S h = Run 119 2 (some (.ref v) :: L) (.ref v :: S) h := Rg rfl
set_option maxRecDepth 100000 in
theorem e119_2 {L : Lo} {S : List Value} {h : Hp} {b : Nat} : Run 119 2 L (.ref b :: S) h = (alen h b).bind fun N => Run 119 3 L (.int (Int32.ofNat N) :: S) h := Rb rfl fun _ => rfl
set_option maxRecDepth 100000 in
theorem e119_3 {L : Lo} {S : List Value} {h : Hp} {x z : Int32} : Run 119 3 L (.int z :: .int x :: S) h = if z ≤ x then Run 119 12 L S h else Run 119 6 L S h := Rbr (c := cnd .ge x z = true) (off := 9) rfl rfl cnd_ge
set_option maxRecDepth 100000 in
theorem e119_6 {L : Lo} {S : List Value} {h : Hp} {v : Nat} : Run 119 6 (some (.ref v) :: L) S h = Run 119 7 (some (.ref v) :: L) (.ref v :: S) h := Rg rfl
set_option maxRecDepth 100000 in
theorem e119_7 {L : Lo} {S : List Value} {h : Hp} {x0 : Option Value} {v : Int32} : Run 119 7 (x0 :: some (.int v) :: L) S h = Run 119 8 (x0 :: some (.int v) :: L) (.int v :: S) h := Rg rfl
set_option maxRecDepth 100000 in
theorem e119_8 {L : Lo} {S : List Value} {h : Hp} {i : Int32} {b : Nat} : Run 119 8 L (.int i :: .ref b :: S) h = (gaI h b i).bind fun v => Run 119 9 L (.int v :: S) h := Rb rfl fun _ => rfl
set_option maxRecDepth 100000 in
theorem e119_9 {L : Lo} {S : List Value} {h : Hp} : Run 119 9 L S h = Run 119 24 L S h := Rg rfl
set_option maxRecDepth 100000 in
theorem e119_12 {L : Lo} {S : List Value} {h : Hp} : Run 119 12 L S h = Run 119 14 L (.int (1775225781 : Int32) :: S) h := Rg rfl
set_option maxRecDepth 100000 in
theorem e119_14 {L : Lo} {S : List Value} {h : Hp} {x0 : Option Value} {v : Int32} : Run 119 14 (x0 :: some (.int v) :: L) S h = Run 119 15 (x0 :: some (.int v) :: L) (.int v :: S) h := Rg rfl
set_option maxRecDepth 100000 in
theorem e119_15 {L : Lo} {S : List Value} {h : Hp} : Run 119 15 L S h = Run 119 18 L (.int 1847 :: S) h := Rg rfl
set_option maxRecDepth 100000 in
theorem e119_18 {L : Lo} {S : List Value} {h : Hp} {x z : Int32} : Run 119 18 L (.int z :: .int x :: S) h = Run 119 19 L (.int (x + z) :: S) h := Rg rfl
set_option maxRecDepth 100000 in
theorem e119_19 {L : Lo} {S : List Value} {h : Hp} {x z : Int32} : Run 119 19 L (.int z :: .int x :: S) h = Run 119 20 L (.int (x * z) :: S) h := Rg rfl
set_option maxRecDepth 100000 in
theorem e119_20 {L : Lo} {S : List Value} {h : Hp} : Run 119 20 L S h = Run 119 23 L (.int 1627 :: S) h := Rg rfl
set_option maxRecDepth 100000 in
theorem e119_23 {L : Lo} {S : List Value} {h : Hp} {x z : Int32} : Run 119 23 L (.int z :: .int x :: S) h = Run 119 24 L (.int (x + z) :: S) h := Rg rfl
set_option maxRecDepth 100000 in
theorem e119_24 {L : Lo} {h : Hp} {x : Int32} : Run 119 24 L [.int x] h = some (.inl (some (.int x)), h) := Rd (if_pos (c := narrow .int (.int x) = .int x) rfl)
set_option maxRecDepth 100000 in
theorem e120_0 {L : Lo} {S : List Value} {h : Hp} {v : Int32} : Run 120 0 (some (.int v) :: L) S h = Run 120 1 (some (.int v) :: L) (.int v :: S) h := Rg rfl
set_option maxRecDepth 100000 in
theorem e120_1 {L : Lo} {S : List Value} {h : Hp} : Run 120 1 L S h = Run 120 3 L (.int (2147483647 : Int32) :: S) h := Rg rfl
set_option maxRecDepth 100000 in
theorem e120_3 {L : Lo} {S : List Value} {h : Hp} {x z : Int32} : Run 120 3 L (.int z :: .int x :: S) h = Run 120 4 L (.int (x &&& z) :: S) h := Rg rfl
set_option maxRecDepth 100000 in
theorem e120_4 {L : Lo} {S : List Value} {h : Hp} {x0 : Option Value} {v : Int32} : Run 120 4 (x0 :: some (.int v) :: L) S h = Run 120 5 (x0 :: some (.int v) :: L) (.int v :: S) h := Rg rfl
set_option maxRecDepth 100000 in
theorem e120_5 {L : Lo} {S : List Value} {h : Hp} {x z : Int32} (hz : ¬ z = 0) : Run 120 5 L (.int z :: .int x :: S) h = Run 120 6 L (.int (x - x / z * z) :: S) h := Rg (if_neg hz)
set_option maxRecDepth 100000 in
theorem e120_6 {L : Lo} {h : Hp} {x : Int32} : Run 120 6 L [.int x] h = some (.inl (some (.int x)), h) := Rd (if_pos (c := narrow .int (.int x) = .int x) rfl)
set_option maxRecDepth 100000 in
theorem e121_0 {L : Lo} {S : List Value} {h : Hp} {v : Nat} : Run 121 0 (some (.ref v) :: L) S h = Run 121 1 (some (.ref v) :: L) (.ref v :: S) h := Rg rfl
set_option maxRecDepth 100000 in
theorem e121_1 {L : Lo} {S : List Value} {h : Hp} {x0 : Option Value} {v : Int32} : Run 121 1 (x0 :: some (.int v) :: L) S h = Run 121 2 (x0 :: some (.int v) :: L) (.int v :: S) h := Rg rfl
set_option maxRecDepth 100000 in
theorem e121_2 {L : Lo} {S : List Value} {h : Hp} {x0 x1 : Option Value} {v : Int32} : Run 121 2 (x0 :: x1 :: some (.int v) :: L) S h = Run 121 3 (x0 :: x1 :: some (.int v) :: L) (.int v :: S) h := Rg rfl
set_option maxRecDepth 100000 in
theorem e121_3 {L : Lo} {h : Hp} {a2 : Int32} {a1 : Int32} {a0 : Nat} (hO : isO h a0 8 = true) : Run 121 3 L [.int a2, .int a1, .ref a0] h = (Run 83 0 [some (.ref a0), some (.int a1), some (.int a2), none] [] h).bind fun o => aft 121 3 6 L [] o := Rcv (c := 83) (As := [.int a1, .int a2]) (S' := []) (pc' := 6) 8 rfl hO
set_option maxRecDepth 100000 in
theorem e121_6 {L : Lo} {h : Hp} {x : Int32} : Run 121 6 L [.int x] h = some (.inl (some (.int x)), h) := Rd (if_pos (c := narrow .int (.int x) = .int x) rfl)
set_option maxRecDepth 100000 in
theorem e121_8 {L : Lo} {S : List Value} {h : Hp} : Run 121 8 L S h = Run 121 11 L (.int (-901) :: S) h := Rg rfl
set_option maxRecDepth 100000 in
theorem e121_11 {L : Lo} {h : Hp} {x : Int32} : Run 121 11 L [.int x] h = some (.inl (some (.int x)), h) := Rd (if_pos (c := narrow .int (.int x) = .int x) rfl)
set_option maxRecDepth 100000 in
theorem e122_0 {L : Lo} {S : List Value} {h : Hp} {v : Nat} : Run 122 0 (some (.ref v) :: L) S h = Run 122 1 (some (.ref v) :: L) (.ref v :: S) h := Rg rfl
set_option maxRecDepth 100000 in
theorem e122_1 {L : Lo} {S : List Value} {h : Hp} {x0 : Option Value} {v : Int32} : Run 122 1 (x0 :: some (.int v) :: L) S h = Run 122 2 (x0 :: some (.int v) :: L) (.int v :: S) h := Rg rfl
set_option maxRecDepth 100000 in
theorem e122_2 {L : Lo} {S : List Value} {h : Hp} {x0 x1 : Option Value} {v : Int32} : Run 122 2 (x0 :: x1 :: some (.int v) :: L) S h = Run 122 3 (x0 :: x1 :: some (.int v) :: L) (.int v :: S) h := Rg rfl
set_option maxRecDepth 100000 in
theorem e122_3 {L : Lo} {h : Hp} {a2 : Int32} {a1 : Int32} {a0 : Nat} (hO : isO h a0 8 = true) : Run 122 3 L [.int a2, .int a1, .ref a0] h = (Run 84 0 [some (.ref a0), some (.int a1), some (.int a2), none] [] h).bind fun o => aft 122 3 6 L [] o := Rcv (c := 84) (As := [.int a1, .int a2]) (S' := []) (pc' := 6) 8 rfl hO
set_option maxRecDepth 100000 in
theorem e122_6 {L : Lo} {h : Hp} {x : Int32} : Run 122 6 L [.int x] h = some (.inl (some (.int x)), h) := Rd (if_pos (c := narrow .int (.int x) = .int x) rfl)
set_option maxRecDepth 100000 in
theorem e122_8 {L : Lo} {S : List Value} {h : Hp} : Run 122 8 L S h = Run 122 11 L (.int (-903) :: S) h := Rg rfl
set_option maxRecDepth 100000 in
theorem e122_11 {L : Lo} {h : Hp} {x : Int32} : Run 122 11 L [.int x] h = some (.inl (some (.int x)), h) := Rd (if_pos (c := narrow .int (.int x) = .int x) rfl)
set_option maxRecDepth 100000 in
theorem e122_13 {L : Lo} {S : List Value} {h : Hp} : Run 122 13 L S h = Run 122 16 L (.int (-902) :: S) h := Rg rfl
set_option maxRecDepth 100000 in
theorem e122_16 {L : Lo} {h : Hp} {x : Int32} : Run 122 16 L [.int x] h = some (.inl (some (.int x)), h) := Rd (if_pos (c := narrow .int (.int x) = .int x) rfl)
set_option maxRecDepth 100000 in
theorem e123_0 {L : Lo} {S : List Value} {h : Hp} {v : Nat} : Run 123 0 (some (.ref v) :: L) S h = Run 123 1 (some (.ref v) :: L) (.ref v :: S) h := Rg rfl
set_option maxRecDepth 100000 in
theorem e123_1 {L : Lo} {S : List Value} {h : Hp} {x0 : Option Value} {v : Int32} : Run 123 1 (x0 :: some (.int v) :: L) S h = Run 123 2 (x0 :: some (.int v) :: L) (.int v :: S) h := Rg rfl
set_option maxRecDepth 100000 in
theorem e123_2 {L : Lo} {S : List Value} {h : Hp} {x0 x1 : Option Value} {v : Int32} : Run 123 2 (x0 :: x1 :: some (.int v) :: L) S h = Run 123 3 (x0 :: x1 :: some (.int v) :: L) (.int v :: S) h := Rg rfl
set_option maxRecDepth 100000 in
theorem e123_3 {L : Lo} {h : Hp} {a2 : Int32} {a1 : Int32} {a0 : Nat} (hO : isO h a0 8 = true) : Run 123 3 L [.int a2, .int a1, .ref a0] h = (Run 85 0 [some (.ref a0), some (.int a1), some (.int a2), none] [] h).bind fun o => aft 123 3 6 L [] o := Rcv (c := 85) (As := [.int a1, .int a2]) (S' := []) (pc' := 6) 8 rfl hO
set_option maxRecDepth 100000 in
theorem e123_6 {L : Lo} {h : Hp} {x : Int32} : Run 123 6 L [.int x] h = some (.inl (some (.int x)), h) := Rd (if_pos (c := narrow .int (.int x) = .int x) rfl)
set_option maxRecDepth 100000 in
theorem e123_8 {L : Lo} {S : List Value} {h : Hp} : Run 123 8 L S h = Run 123 11 L (.int (-901) :: S) h := Rg rfl
set_option maxRecDepth 100000 in
theorem e123_11 {L : Lo} {h : Hp} {x : Int32} : Run 123 11 L [.int x] h = some (.inl (some (.int x)), h) := Rd (if_pos (c := narrow .int (.int x) = .int x) rfl)
set_option maxRecDepth 100000 in
theorem e124_0 {L : Lo} {S : List Value} {h : Hp} {v : Nat} : Run 124 0 (some (.ref v) :: L) S h = Run 124 1 (some (.ref v) :: L) (.ref v :: S) h := Rg rfl
set_option maxRecDepth 100000 in
theorem e124_1 {L : Lo} {S : List Value} {h : Hp} {x0 x1 : Option Value} {v : Int32} : Run 124 1 (x0 :: x1 :: some (.int v) :: L) S h = Run 124 2 (x0 :: x1 :: some (.int v) :: L) (.int v :: S) h := Rg rfl
set_option maxRecDepth 100000 in
theorem e124_2 {L : Lo} {S : List Value} {h : Hp} : Run 124 2 L S h = Run 124 3 L (.int 2 :: S) h := Rg rfl
set_option maxRecDepth 100000 in
theorem e124_3 {L : Lo} {S : List Value} {h : Hp} {x z : Int32} (hz : ¬ z = 0) : Run 124 3 L (.int z :: .int x :: S) h = Run 124 4 L (.int (x - x / z * z) :: S) h := Rg (if_neg hz)
set_option maxRecDepth 100000 in
theorem e124_4 {L : Lo} {S : List Value} {h : Hp} {x0 : Option Value} {v : Int32} : Run 124 4 (x0 :: some (.int v) :: L) S h = Run 124 5 (x0 :: some (.int v) :: L) (.int v :: S) h := Rg rfl
set_option maxRecDepth 100000 in
theorem e124_5 {L : Lo} {S : List Value} {h : Hp} {x0 x1 : Option Value} {v : Int32} : Run 124 5 (x0 :: x1 :: some (.int v) :: L) S h = Run 124 6 (x0 :: x1 :: some (.int v) :: L) (.int v :: S) h := Rg rfl
set_option maxRecDepth 100000 in
theorem e124_6 {L : Lo} {S : List Value} {h : Hp} : Run 124 6 L S h = Run 124 7 L (.int 2 :: S) h := Rg rfl
set_option maxRecDepth 100000 in
theorem e124_7 {L : Lo} {S : List Value} {h : Hp} {x z : Int32} (hz : ¬ z = 0) : Run 124 7 L (.int z :: .int x :: S) h = Run 124 8 L (.int (x / z) :: S) h := Rg (if_neg hz)
set_option maxRecDepth 100000 in
theorem e124_8 {L : Lo} {S : List Value} {h : Hp} : Run 124 8 L S h = Run 124 10 L (.int 6 :: S) h := Rg rfl
set_option maxRecDepth 100000 in
theorem e124_10 {L : Lo} {S : List Value} {h : Hp} {x z : Int32} (hz : ¬ z = 0) : Run 124 10 L (.int z :: .int x :: S) h = Run 124 11 L (.int (x - x / z * z) :: S) h := Rg (if_neg hz)
set_option maxRecDepth 100000 in
theorem e124_11 {L : Lo} {S : List Value} {h : Hp} {x0 x1 : Option Value} {v : Int32} : Run 124 11 (x0 :: x1 :: some (.int v) :: L) S h = Run 124 12 (x0 :: x1 :: some (.int v) :: L) (.int v :: S) h := Rg rfl
set_option maxRecDepth 100000 in
theorem e124_12 {L : Lo} {S : List Value} {h : Hp} : Run 124 12 L S h = Run 124 14 L (.int 12 :: S) h := Rg rfl
set_option maxRecDepth 100000 in
theorem e124_14 {L : Lo} {S : List Value} {h : Hp} {x z : Int32} (hz : ¬ z = 0) : Run 124 14 L (.int z :: .int x :: S) h = Run 124 15 L (.int (x / z) :: S) h := Rg (if_neg hz)
set_option maxRecDepth 100000 in
theorem e124_15 {L : Lo} {S : List Value} {h : Hp} : Run 124 15 L S h = Run 124 17 L (.int 64 :: S) h := Rg rfl
set_option maxRecDepth 100000 in
theorem e124_17 {L : Lo} {S : List Value} {h : Hp} {x z : Int32} (hz : ¬ z = 0) : Run 124 17 L (.int z :: .int x :: S) h = Run 124 18 L (.int (x - x / z * z) :: S) h := Rg (if_neg hz)
set_option maxRecDepth 100000 in
theorem e124_18 {L : Lo} {S : List Value} {h : Hp} {x0 x1 : Option Value} {v : Int32} : Run 124 18 (x0 :: x1 :: some (.int v) :: L) S h = Run 124 19 (x0 :: x1 :: some (.int v) :: L) (.int v :: S) h := Rg rfl
set_option maxRecDepth 100000 in
theorem e124_19 {L : Lo} {S : List Value} {h : Hp} : Run 124 19 L S h = Run 124 22 L (.int 768 :: S) h := Rg rfl
set_option maxRecDepth 100000 in
theorem e124_22 {L : Lo} {S : List Value} {h : Hp} {x z : Int32} (hz : ¬ z = 0) : Run 124 22 L (.int z :: .int x :: S) h = Run 124 23 L (.int (x / z) :: S) h := Rg (if_neg hz)
set_option maxRecDepth 100000 in
theorem e124_23 {L : Lo} {S : List Value} {h : Hp} : Run 124 23 L S h = Run 124 25 L (.int 16 :: S) h := Rg rfl
set_option maxRecDepth 100000 in
theorem e124_25 {L : Lo} {S : List Value} {h : Hp} {x z : Int32} (hz : ¬ z = 0) : Run 124 25 L (.int z :: .int x :: S) h = Run 124 26 L (.int (x - x / z * z) :: S) h := Rg (if_neg hz)
set_option maxRecDepth 100000 in
theorem e124_26 {L : Lo} {S : List Value} {h : Hp} {x0 x1 : Option Value} {v : Int32} : Run 124 26 (x0 :: x1 :: some (.int v) :: L) S h = Run 124 27 (x0 :: x1 :: some (.int v) :: L) (.int v :: S) h := Rg rfl
set_option maxRecDepth 100000 in
theorem e124_27 {L : Lo} {S : List Value} {h : Hp} : Run 124 27 L S h = Run 124 30 L (.int 12288 :: S) h := Rg rfl
set_option maxRecDepth 100000 in
theorem e124_30 {L : Lo} {S : List Value} {h : Hp} {x z : Int32} (hz : ¬ z = 0) : Run 124 30 L (.int z :: .int x :: S) h = Run 124 31 L (.int (x / z) :: S) h := Rg (if_neg hz)
set_option maxRecDepth 100000 in
theorem e124_31 {L : Lo} {h : Hp} {a6 : Int32} {a5 : Int32} {a4 : Int32} {a3 : Int32} {a2 : Int32} {a1 : Int32} {a0 : Nat} (hO : isO h a0 8 = true) : Run 124 31 L [.int a6, .int a5, .int a4, .int a3, .int a2, .int a1, .ref a0] h = (Run 86 0 [some (.ref a0), some (.int a1), some (.int a2), some (.int a3), some (.int a4), some (.int a5), some (.int a6), none, none] [] h).bind fun o => aft 124 31 34 L [] o := Rcv (c := 86) (As := [.int a1, .int a2, .int a3, .int a4, .int a5, .int a6]) (S' := []) (pc' := 34) 8 rfl hO
set_option maxRecDepth 100000 in
theorem e124_34 {L : Lo} {h : Hp} {x : Int32} : Run 124 34 L [.int x] h = some (.inl (some (.int x)), h) := Rd (if_pos (c := narrow .int (.int x) = .int x) rfl)
set_option maxRecDepth 100000 in
theorem e124_36 {L : Lo} {S : List Value} {h : Hp} : Run 124 36 L S h = Run 124 39 L (.int (-903) :: S) h := Rg rfl
set_option maxRecDepth 100000 in
theorem e124_39 {L : Lo} {h : Hp} {x : Int32} : Run 124 39 L [.int x] h = some (.inl (some (.int x)), h) := Rd (if_pos (c := narrow .int (.int x) = .int x) rfl)
set_option maxRecDepth 100000 in
theorem e124_41 {L : Lo} {S : List Value} {h : Hp} : Run 124 41 L S h = Run 124 44 L (.int (-901) :: S) h := Rg rfl
set_option maxRecDepth 100000 in
theorem e124_44 {L : Lo} {h : Hp} {x : Int32} : Run 124 44 L [.int x] h = some (.inl (some (.int x)), h) := Rd (if_pos (c := narrow .int (.int x) = .int x) rfl)
set_option maxRecDepth 100000 in
theorem e124_46 {L : Lo} {S : List Value} {h : Hp} : Run 124 46 L S h = Run 124 49 L (.int (-902) :: S) h := Rg rfl
set_option maxRecDepth 100000 in
theorem e124_49 {L : Lo} {h : Hp} {x : Int32} : Run 124 49 L [.int x] h = some (.inl (some (.int x)), h) := Rd (if_pos (c := narrow .int (.int x) = .int x) rfl)
set_option maxRecDepth 100000 in
theorem e125_0 {L : Lo} {S : List Value} {h : Hp} {v : Nat} : Run 125 0 (some (.ref v) :: L) S h = Run 125 1 (some (.ref v) :: L) (.ref v :: S) h := Rg rfl
set_option maxRecDepth 100000 in
theorem e125_1 {L : Lo} {S : List Value} {h : Hp} {x0 : Option Value} {v : Int32} : Run 125 1 (x0 :: some (.int v) :: L) S h = Run 125 2 (x0 :: some (.int v) :: L) (.int v :: S) h := Rg rfl
set_option maxRecDepth 100000 in
theorem e125_2 {L : Lo} {h : Hp} {a1 : Int32} {a0 : Nat} (hO : isO h a0 8 = true) : Run 125 2 L [.int a1, .ref a0] h = (Run 87 0 [some (.ref a0), some (.int a1)] [] h).bind fun o => aft 125 2 5 L [] o := Rcv (c := 87) (As := [.int a1]) (S' := []) (pc' := 5) 8 rfl hO
set_option maxRecDepth 100000 in
theorem e125_5 {L : Lo} {h : Hp} {x : Int32} : Run 125 5 L [.int x] h = some (.inl (some (.int x)), h) := Rd (if_pos (c := narrow .int (.int x) = .int x) rfl)
set_option maxRecDepth 100000 in
theorem e125_7 {L : Lo} {S : List Value} {h : Hp} : Run 125 7 L S h = Run 125 10 L (.int (-901) :: S) h := Rg rfl
set_option maxRecDepth 100000 in
theorem e125_10 {L : Lo} {h : Hp} {x : Int32} : Run 125 10 L [.int x] h = some (.inl (some (.int x)), h) := Rd (if_pos (c := narrow .int (.int x) = .int x) rfl)
set_option maxRecDepth 100000 in
theorem e126_0 {L : Lo} {S : List Value} {h : Hp} {v : Nat} : Run 126 0 (some (.ref v) :: L) S h = Run 126 1 (some (.ref v) :: L) (.ref v :: S) h := Rg rfl
set_option maxRecDepth 100000 in
theorem e126_1 {L : Lo} {S : List Value} {h : Hp} {x0 : Option Value} {v : Int32} : Run 126 1 (x0 :: some (.int v) :: L) S h = Run 126 2 (x0 :: some (.int v) :: L) (.int v :: S) h := Rg rfl
set_option maxRecDepth 100000 in
theorem e126_2 {L : Lo} {S : List Value} {h : Hp} {x0 x1 : Option Value} {v : Int32} : Run 126 2 (x0 :: x1 :: some (.int v) :: L) S h = Run 126 3 (x0 :: x1 :: some (.int v) :: L) (.int v :: S) h := Rg rfl
set_option maxRecDepth 100000 in
theorem e126_3 {L : Lo} {h : Hp} {a2 : Int32} {a1 : Int32} {a0 : Nat} (hO : isO h a0 8 = true) : Run 126 3 L [.int a2, .int a1, .ref a0] h = (Run 88 0 [some (.ref a0), some (.int a1), some (.int a2)] [] h).bind fun o => aft 126 3 6 L [] o := Rcv (c := 88) (As := [.int a1, .int a2]) (S' := []) (pc' := 6) 8 rfl hO
set_option maxRecDepth 100000 in
theorem e126_6 {L : Lo} {h : Hp} {x : Int32} : Run 126 6 L [.int x] h = some (.inl (some (.int x)), h) := Rd (if_pos (c := narrow .int (.int x) = .int x) rfl)
set_option maxRecDepth 100000 in
theorem e126_8 {L : Lo} {S : List Value} {h : Hp} : Run 126 8 L S h = Run 126 11 L (.int (-903) :: S) h := Rg rfl
set_option maxRecDepth 100000 in
theorem e126_11 {L : Lo} {h : Hp} {x : Int32} : Run 126 11 L [.int x] h = some (.inl (some (.int x)), h) := Rd (if_pos (c := narrow .int (.int x) = .int x) rfl)
set_option maxRecDepth 100000 in
theorem e126_13 {L : Lo} {S : List Value} {h : Hp} : Run 126 13 L S h = Run 126 16 L (.int (-901) :: S) h := Rg rfl
set_option maxRecDepth 100000 in
theorem e126_16 {L : Lo} {h : Hp} {x : Int32} : Run 126 16 L [.int x] h = some (.inl (some (.int x)), h) := Rd (if_pos (c := narrow .int (.int x) = .int x) rfl)
set_option maxRecDepth 100000 in
theorem e127_0 {L : Lo} {S : List Value} {h : Hp} {v : Nat} : Run 127 0 (some (.ref v) :: L) S h = Run 127 1 (some (.ref v) :: L) (.ref v :: S) h := Rg rfl
set_option maxRecDepth 100000 in
theorem e127_1 {L : Lo} {S : List Value} {h : Hp} {x0 : Option Value} {v : Int32} : Run 127 1 (x0 :: some (.int v) :: L) S h = Run 127 2 (x0 :: some (.int v) :: L) (.int v :: S) h := Rg rfl
set_option maxRecDepth 100000 in
theorem e127_2 {L : Lo} {h : Hp} {a1 : Int32} {a0 : Nat} (hO : isO h a0 8 = true) : Run 127 2 L [.int a1, .ref a0] h = (Run 89 0 [some (.ref a0), some (.int a1)] [] h).bind fun o => aft 127 2 5 L [] o := Rcv (c := 89) (As := [.int a1]) (S' := []) (pc' := 5) 8 rfl hO
set_option maxRecDepth 100000 in
theorem e127_5 {L : Lo} {h : Hp} {x : Int32} : Run 127 5 L [.int x] h = some (.inl (some (.int x)), h) := Rd (if_pos (c := narrow .int (.int x) = .int x) rfl)
set_option maxRecDepth 100000 in
theorem e127_7 {L : Lo} {S : List Value} {h : Hp} : Run 127 7 L S h = Run 127 10 L (.int (-903) :: S) h := Rg rfl
set_option maxRecDepth 100000 in
theorem e127_10 {L : Lo} {h : Hp} {x : Int32} : Run 127 10 L [.int x] h = some (.inl (some (.int x)), h) := Rd (if_pos (c := narrow .int (.int x) = .int x) rfl)
set_option maxRecDepth 100000 in
theorem e128_0 {L : Lo} {S : List Value} {h : Hp} {v : Nat} : Run 128 0 (some (.ref v) :: L) S h = Run 128 1 (some (.ref v) :: L) (.ref v :: S) h := Rg rfl
set_option maxRecDepth 100000 in
theorem e128_1 {L : Lo} {S : List Value} {h : Hp} {x0 : Option Value} {v : Int32} : Run 128 1 (x0 :: some (.int v) :: L) S h = Run 128 2 (x0 :: some (.int v) :: L) (.int v :: S) h := Rg rfl
set_option maxRecDepth 100000 in
theorem e128_2 {L : Lo} {S : List Value} {h : Hp} {x0 x1 : Option Value} {v : Int32} : Run 128 2 (x0 :: x1 :: some (.int v) :: L) S h = Run 128 3 (x0 :: x1 :: some (.int v) :: L) (.int v :: S) h := Rg rfl
set_option maxRecDepth 100000 in
theorem e128_3 {L : Lo} {h : Hp} {a2 : Int32} {a1 : Int32} {a0 : Nat} (hO : isO h a0 8 = true) : Run 128 3 L [.int a2, .int a1, .ref a0] h = (Run 90 0 [some (.ref a0), some (.int a1), some (.int a2)] [] h).bind fun o => aft 128 3 6 L [] o := Rcv (c := 90) (As := [.int a1, .int a2]) (S' := []) (pc' := 6) 8 rfl hO
set_option maxRecDepth 100000 in
theorem e128_6 {L : Lo} {h : Hp} {x : Int32} : Run 128 6 L [.int x] h = some (.inl (some (.int x)), h) := Rd (if_pos (c := narrow .int (.int x) = .int x) rfl)
set_option maxRecDepth 100000 in
theorem e128_8 {L : Lo} {S : List Value} {h : Hp} : Run 128 8 L S h = Run 128 11 L (.int (-903) :: S) h := Rg rfl
set_option maxRecDepth 100000 in
theorem e128_11 {L : Lo} {h : Hp} {x : Int32} : Run 128 11 L [.int x] h = some (.inl (some (.int x)), h) := Rd (if_pos (c := narrow .int (.int x) = .int x) rfl)
set_option maxRecDepth 100000 in
theorem e129_0 {L : Lo} {S : List Value} {h : Hp} {v : Nat} : Run 129 0 (some (.ref v) :: L) S h = Run 129 1 (some (.ref v) :: L) (.ref v :: S) h := Rg rfl
set_option maxRecDepth 100000 in
theorem e129_1 {L : Lo} {S : List Value} {h : Hp} {x0 : Option Value} {v : Int32} : Run 129 1 (x0 :: some (.int v) :: L) S h = Run 129 2 (x0 :: some (.int v) :: L) (.int v :: S) h := Rg rfl
set_option maxRecDepth 100000 in
theorem e129_2 {L : Lo} {S : List Value} {h : Hp} {x0 x1 : Option Value} {v : Int32} : Run 129 2 (x0 :: x1 :: some (.int v) :: L) S h = Run 129 3 (x0 :: x1 :: some (.int v) :: L) (.int v :: S) h := Rg rfl
set_option maxRecDepth 100000 in
theorem e129_3 {L : Lo} {h : Hp} {a2 : Int32} {a1 : Int32} {a0 : Nat} (hO : isO h a0 8 = true) : Run 129 3 L [.int a2, .int a1, .ref a0] h = (Run 91 0 [some (.ref a0), some (.int a1), some (.int a2)] [] h).bind fun o => aft 129 3 6 L [] o := Rcv (c := 91) (As := [.int a1, .int a2]) (S' := []) (pc' := 6) 8 rfl hO
set_option maxRecDepth 100000 in
theorem e129_6 {L : Lo} {h : Hp} {x : Int32} : Run 129 6 L [.int x] h = some (.inl (some (.int x)), h) := Rd (if_pos (c := narrow .int (.int x) = .int x) rfl)
set_option maxRecDepth 100000 in
theorem e129_8 {L : Lo} {S : List Value} {h : Hp} : Run 129 8 L S h = Run 129 11 L (.int (-903) :: S) h := Rg rfl
set_option maxRecDepth 100000 in
theorem e129_11 {L : Lo} {h : Hp} {x : Int32} : Run 129 11 L [.int x] h = some (.inl (some (.int x)), h) := Rd (if_pos (c := narrow .int (.int x) = .int x) rfl)
set_option maxRecDepth 100000 in
theorem e130_0 {L : Lo} {S : List Value} {h : Hp} {v : Nat} : Run 130 0 (some (.ref v) :: L) S h = Run 130 1 (some (.ref v) :: L) (.ref v :: S) h := Rg rfl
set_option maxRecDepth 100000 in
theorem e130_1 {L : Lo} {S : List Value} {h : Hp} {x0 : Option Value} {v : Int32} : Run 130 1 (x0 :: some (.int v) :: L) S h = Run 130 2 (x0 :: some (.int v) :: L) (.int v :: S) h := Rg rfl
set_option maxRecDepth 100000 in
theorem e130_2 {L : Lo} {h : Hp} {a1 : Int32} {a0 : Nat} (hO : isO h a0 8 = true) : Run 130 2 L [.int a1, .ref a0] h = (Run 92 0 [some (.ref a0), some (.int a1), none] [] h).bind fun o => aft 130 2 5 L [] o := Rcv (c := 92) (As := [.int a1]) (S' := []) (pc' := 5) 8 rfl hO
set_option maxRecDepth 100000 in
theorem e130_5 {L : Lo} {h : Hp} {x : Int32} : Run 130 5 L [.int x] h = some (.inl (some (.int x)), h) := Rd (if_pos (c := narrow .int (.int x) = .int x) rfl)
set_option maxRecDepth 100000 in
theorem e130_7 {L : Lo} {S : List Value} {h : Hp} : Run 130 7 L S h = Run 130 10 L (.int (-903) :: S) h := Rg rfl
set_option maxRecDepth 100000 in
theorem e130_10 {L : Lo} {h : Hp} {x : Int32} : Run 130 10 L [.int x] h = some (.inl (some (.int x)), h) := Rd (if_pos (c := narrow .int (.int x) = .int x) rfl)
set_option maxRecDepth 100000 in
theorem e130_12 {L : Lo} {S : List Value} {h : Hp} : Run 130 12 L S h = Run 130 15 L (.int (-902) :: S) h := Rg rfl
set_option maxRecDepth 100000 in
theorem e130_15 {L : Lo} {h : Hp} {x : Int32} : Run 130 15 L [.int x] h = some (.inl (some (.int x)), h) := Rd (if_pos (c := narrow .int (.int x) = .int x) rfl)
set_option maxRecDepth 100000 in
theorem e131_0 {L : Lo} {S : List Value} {h : Hp} {v : Nat} : Run 131 0 (some (.ref v) :: L) S h = Run 131 1 (some (.ref v) :: L) (.ref v :: S) h := Rg rfl
set_option maxRecDepth 100000 in
theorem e131_1 {L : Lo} {S : List Value} {h : Hp} {x0 : Option Value} {v : Int32} : Run 131 1 (x0 :: some (.int v) :: L) S h = Run 131 2 (x0 :: some (.int v) :: L) (.int v :: S) h := Rg rfl
set_option maxRecDepth 100000 in
theorem e131_2 {L : Lo} {S : List Value} {h : Hp} {x0 x1 : Option Value} {v : Int32} : Run 131 2 (x0 :: x1 :: some (.int v) :: L) S h = Run 131 3 (x0 :: x1 :: some (.int v) :: L) (.int v :: S) h := Rg rfl
set_option maxRecDepth 100000 in
theorem e131_3 {L : Lo} {h : Hp} {a2 : Int32} {a1 : Int32} {a0 : Nat} (hO : isO h a0 8 = true) : Run 131 3 L [.int a2, .int a1, .ref a0] h = (Run 93 0 [some (.ref a0), some (.int a1), some (.int a2), none] [] h).bind fun o => aft 131 3 6 L [] o := Rcv (c := 93) (As := [.int a1, .int a2]) (S' := []) (pc' := 6) 8 rfl hO
set_option maxRecDepth 100000 in
theorem e131_6 {L : Lo} {h : Hp} {x : Int32} : Run 131 6 L [.int x] h = some (.inl (some (.int x)), h) := Rd (if_pos (c := narrow .int (.int x) = .int x) rfl)
set_option maxRecDepth 100000 in
theorem e131_8 {L : Lo} {S : List Value} {h : Hp} : Run 131 8 L S h = Run 131 11 L (.int (-903) :: S) h := Rg rfl
set_option maxRecDepth 100000 in
theorem e131_11 {L : Lo} {h : Hp} {x : Int32} : Run 131 11 L [.int x] h = some (.inl (some (.int x)), h) := Rd (if_pos (c := narrow .int (.int x) = .int x) rfl)
set_option maxRecDepth 100000 in
theorem e131_13 {L : Lo} {S : List Value} {h : Hp} : Run 131 13 L S h = Run 131 16 L (.int (-902) :: S) h := Rg rfl
set_option maxRecDepth 100000 in
theorem e131_16 {L : Lo} {h : Hp} {x : Int32} : Run 131 16 L [.int x] h = some (.inl (some (.int x)), h) := Rd (if_pos (c := narrow .int (.int x) = .int x) rfl)
set_option maxRecDepth 100000 in
theorem e132_0 {L : Lo} {S : List Value} {h : Hp} {v : Nat} : Run 132 0 (some (.ref v) :: L) S h = Run 132 1 (some (.ref v) :: L) (.ref v :: S) h := Rg rfl
set_option maxRecDepth 100000 in
theorem e132_1 {L : Lo} {S : List Value} {h : Hp} {x0 : Option Value} {v : Int32} : Run 132 1 (x0 :: some (.int v) :: L) S h = Run 132 2 (x0 :: some (.int v) :: L) (.int v :: S) h := Rg rfl
set_option maxRecDepth 100000 in
theorem e132_2 {L : Lo} {S : List Value} {h : Hp} {x0 x1 : Option Value} {v : Int32} : Run 132 2 (x0 :: x1 :: some (.int v) :: L) S h = Run 132 3 (x0 :: x1 :: some (.int v) :: L) (.int v :: S) h := Rg rfl
set_option maxRecDepth 100000 in
theorem e132_3 {L : Lo} {S : List Value} {h : Hp} {x0 x1 x2 : Option Value} {v : Int32} : Run 132 3 (x0 :: x1 :: x2 :: some (.int v) :: L) S h = Run 132 4 (x0 :: x1 :: x2 :: some (.int v) :: L) (.int v :: S) h := Rg rfl
set_option maxRecDepth 100000 in
theorem e132_4 {L : Lo} {h : Hp} {a3 : Int32} {a2 : Int32} {a1 : Int32} {a0 : Nat} (hO : isO h a0 8 = true) : Run 132 4 L [.int a3, .int a2, .int a1, .ref a0] h = (Run 95 0 [some (.ref a0), some (.int a1), some (.int a2), some (.int a3)] [] h).bind fun o => aft 132 4 7 L [] o := Rcv (c := 95) (As := [.int a1, .int a2, .int a3]) (S' := []) (pc' := 7) 8 rfl hO
set_option maxRecDepth 100000 in
theorem e132_7 {L : Lo} {h : Hp} {x : Int32} : Run 132 7 L [.int x] h = some (.inl (some (.int x)), h) := Rd (if_pos (c := narrow .int (.int x) = .int x) rfl)
set_option maxRecDepth 100000 in
theorem e132_10 {L : Lo} {S : List Value} {h : Hp} : Run 132 10 L S h = Run 132 13 L (.int (-903) :: S) h := Rg rfl
set_option maxRecDepth 100000 in
theorem e132_13 {L : Lo} {h : Hp} {x : Int32} : Run 132 13 L [.int x] h = some (.inl (some (.int x)), h) := Rd (if_pos (c := narrow .int (.int x) = .int x) rfl)
set_option maxRecDepth 100000 in
theorem e132_16 {L : Lo} {S : List Value} {h : Hp} : Run 132 16 L S h = Run 132 19 L (.int (-901) :: S) h := Rg rfl
set_option maxRecDepth 100000 in
theorem e132_19 {L : Lo} {h : Hp} {x : Int32} : Run 132 19 L [.int x] h = some (.inl (some (.int x)), h) := Rd (if_pos (c := narrow .int (.int x) = .int x) rfl)
set_option maxRecDepth 100000 in
theorem e133_0 {L : Lo} {S : List Value} {h : Hp} {v : Nat} : Run 133 0 (some (.ref v) :: L) S h = Run 133 1 (some (.ref v) :: L) (.ref v :: S) h := Rg rfl
set_option maxRecDepth 100000 in
theorem e133_1 {L : Lo} {S : List Value} {h : Hp} {x0 : Option Value} {v : Int32} : Run 133 1 (x0 :: some (.int v) :: L) S h = Run 133 2 (x0 :: some (.int v) :: L) (.int v :: S) h := Rg rfl
set_option maxRecDepth 100000 in
theorem e133_2 {L : Lo} {S : List Value} {h : Hp} {x0 x1 : Option Value} {v : Int32} : Run 133 2 (x0 :: x1 :: some (.int v) :: L) S h = Run 133 3 (x0 :: x1 :: some (.int v) :: L) (.int v :: S) h := Rg rfl
set_option maxRecDepth 100000 in
theorem e133_3 {L : Lo} {S : List Value} {h : Hp} {x0 x1 x2 : Option Value} {v : Int32} : Run 133 3 (x0 :: x1 :: x2 :: some (.int v) :: L) S h = Run 133 4 (x0 :: x1 :: x2 :: some (.int v) :: L) (.int v :: S) h := Rg rfl
set_option maxRecDepth 100000 in
theorem e133_4 {L : Lo} {S : List Value} {h : Hp} {x0 x1 x2 x3 : Option Value} {v : Int32} : Run 133 4 (x0 :: x1 :: x2 :: x3 :: some (.int v) :: L) S h = Run 133 6 (x0 :: x1 :: x2 :: x3 :: some (.int v) :: L) (.int v :: S) h := Rg rfl
set_option maxRecDepth 100000 in
theorem e133_6 {L : Lo} {h : Hp} {a4 : Int32} {a3 : Int32} {a2 : Int32} {a1 : Int32} {a0 : Nat} (hO : isO h a0 8 = true) : Run 133 6 L [.int a4, .int a3, .int a2, .int a1, .ref a0] h = (Run 96 0 [some (.ref a0), some (.int a1), some (.int a2), some (.int a3), some (.int a4), none, none] [] h).bind fun o => aft 133 6 9 L [] o := Rcv (c := 96) (As := [.int a1, .int a2, .int a3, .int a4]) (S' := []) (pc' := 9) 8 rfl hO
set_option maxRecDepth 100000 in
theorem e133_9 {L : Lo} {h : Hp} {x : Int32} : Run 133 9 L [.int x] h = some (.inl (some (.int x)), h) := Rd (if_pos (c := narrow .int (.int x) = .int x) rfl)
set_option maxRecDepth 100000 in
theorem e133_12 {L : Lo} {S : List Value} {h : Hp} : Run 133 12 L S h = Run 133 15 L (.int (-903) :: S) h := Rg rfl
set_option maxRecDepth 100000 in
theorem e133_15 {L : Lo} {h : Hp} {x : Int32} : Run 133 15 L [.int x] h = some (.inl (some (.int x)), h) := Rd (if_pos (c := narrow .int (.int x) = .int x) rfl)
set_option maxRecDepth 100000 in
theorem e133_18 {L : Lo} {S : List Value} {h : Hp} : Run 133 18 L S h = Run 133 21 L (.int (-901) :: S) h := Rg rfl
set_option maxRecDepth 100000 in
theorem e133_21 {L : Lo} {h : Hp} {x : Int32} : Run 133 21 L [.int x] h = some (.inl (some (.int x)), h) := Rd (if_pos (c := narrow .int (.int x) = .int x) rfl)
set_option maxRecDepth 100000 in
theorem e133_24 {L : Lo} {S : List Value} {h : Hp} : Run 133 24 L S h = Run 133 27 L (.int (-902) :: S) h := Rg rfl
set_option maxRecDepth 100000 in
theorem e133_27 {L : Lo} {h : Hp} {x : Int32} : Run 133 27 L [.int x] h = some (.inl (some (.int x)), h) := Rd (if_pos (c := narrow .int (.int x) = .int x) rfl)
set_option maxRecDepth 100000 in
theorem e134_0 {L : Lo} {S : List Value} {h : Hp} {v : Nat} : Run 134 0 (some (.ref v) :: L) S h = Run 134 1 (some (.ref v) :: L) (.ref v :: S) h := Rg rfl
set_option maxRecDepth 100000 in
theorem e134_1 {L : Lo} {S : List Value} {h : Hp} {x0 : Option Value} {v : Int32} : Run 134 1 (x0 :: some (.int v) :: L) S h = Run 134 2 (x0 :: some (.int v) :: L) (.int v :: S) h := Rg rfl
set_option maxRecDepth 100000 in
theorem e134_2 {L : Lo} {S : List Value} {h : Hp} {x0 x1 : Option Value} {v : Int32} : Run 134 2 (x0 :: x1 :: some (.int v) :: L) S h = Run 134 3 (x0 :: x1 :: some (.int v) :: L) (.int v :: S) h := Rg rfl
set_option maxRecDepth 100000 in
theorem e134_3 {L : Lo} {h : Hp} {a2 : Int32} {a1 : Int32} {a0 : Nat} (hO : isO h a0 8 = true) : Run 134 3 L [.int a2, .int a1, .ref a0] h = (Run 97 0 [some (.ref a0), some (.int a1), some (.int a2)] [] h).bind fun o => aft 134 3 6 L [] o := Rcv (c := 97) (As := [.int a1, .int a2]) (S' := []) (pc' := 6) 8 rfl hO
set_option maxRecDepth 100000 in
theorem e134_6 {L : Lo} {h : Hp} {x : Int32} : Run 134 6 L [.int x] h = some (.inl (some (.int x)), h) := Rd (if_pos (c := narrow .int (.int x) = .int x) rfl)
set_option maxRecDepth 100000 in
theorem e134_8 {L : Lo} {S : List Value} {h : Hp} : Run 134 8 L S h = Run 134 11 L (.int (-903) :: S) h := Rg rfl
set_option maxRecDepth 100000 in
theorem e134_11 {L : Lo} {h : Hp} {x : Int32} : Run 134 11 L [.int x] h = some (.inl (some (.int x)), h) := Rd (if_pos (c := narrow .int (.int x) = .int x) rfl)
set_option maxRecDepth 100000 in
theorem e134_13 {L : Lo} {S : List Value} {h : Hp} : Run 134 13 L S h = Run 134 16 L (.int (-901) :: S) h := Rg rfl
set_option maxRecDepth 100000 in
theorem e134_16 {L : Lo} {h : Hp} {x : Int32} : Run 134 16 L [.int x] h = some (.inl (some (.int x)), h) := Rd (if_pos (c := narrow .int (.int x) = .int x) rfl)
set_option maxRecDepth 100000 in
theorem e134_18 {L : Lo} {S : List Value} {h : Hp} : Run 134 18 L S h = Run 134 21 L (.int (-902) :: S) h := Rg rfl
set_option maxRecDepth 100000 in
theorem e134_21 {L : Lo} {h : Hp} {x : Int32} : Run 134 21 L [.int x] h = some (.inl (some (.int x)), h) := Rd (if_pos (c := narrow .int (.int x) = .int x) rfl)
set_option maxRecDepth 100000 in
theorem e135_0 {L : Lo} {S : List Value} {h : Hp} {v : Nat} : Run 135 0 (some (.ref v) :: L) S h = Run 135 1 (some (.ref v) :: L) (.ref v :: S) h := Rg rfl
set_option maxRecDepth 100000 in
theorem e135_1 {L : Lo} {S : List Value} {h : Hp} {x0 : Option Value} {v : Int32} : Run 135 1 (x0 :: some (.int v) :: L) S h = Run 135 2 (x0 :: some (.int v) :: L) (.int v :: S) h := Rg rfl
set_option maxRecDepth 100000 in
theorem e135_2 {L : Lo} {h : Hp} {a1 : Int32} {a0 : Nat} (hO : isO h a0 8 = true) : Run 135 2 L [.int a1, .ref a0] h = (Run 98 0 [some (.ref a0), some (.int a1), none] [] h).bind fun o => aft 135 2 5 L [] o := Rcv (c := 98) (As := [.int a1]) (S' := []) (pc' := 5) 8 rfl hO
set_option maxRecDepth 100000 in
theorem e135_5 {L : Lo} {h : Hp} {x : Int32} : Run 135 5 L [.int x] h = some (.inl (some (.int x)), h) := Rd (if_pos (c := narrow .int (.int x) = .int x) rfl)
set_option maxRecDepth 100000 in
theorem e135_7 {L : Lo} {S : List Value} {h : Hp} : Run 135 7 L S h = Run 135 10 L (.int (-903) :: S) h := Rg rfl
set_option maxRecDepth 100000 in
theorem e135_10 {L : Lo} {h : Hp} {x : Int32} : Run 135 10 L [.int x] h = some (.inl (some (.int x)), h) := Rd (if_pos (c := narrow .int (.int x) = .int x) rfl)
set_option maxRecDepth 100000 in
theorem e135_12 {L : Lo} {S : List Value} {h : Hp} : Run 135 12 L S h = Run 135 15 L (.int (-902) :: S) h := Rg rfl
set_option maxRecDepth 100000 in
theorem e135_15 {L : Lo} {h : Hp} {x : Int32} : Run 135 15 L [.int x] h = some (.inl (some (.int x)), h) := Rd (if_pos (c := narrow .int (.int x) = .int x) rfl)
set_option maxRecDepth 100000 in
theorem e136_0 {L : Lo} {S : List Value} {h : Hp} {v : Nat} : Run 136 0 (some (.ref v) :: L) S h = Run 136 1 (some (.ref v) :: L) (.ref v :: S) h := Rg rfl
set_option maxRecDepth 100000 in
theorem e136_1 {L : Lo} {S : List Value} {h : Hp} {x0 : Option Value} {v : Int32} : Run 136 1 (x0 :: some (.int v) :: L) S h = Run 136 2 (x0 :: some (.int v) :: L) (.int v :: S) h := Rg rfl
set_option maxRecDepth 100000 in
theorem e136_2 {L : Lo} {h : Hp} {a1 : Int32} {a0 : Nat} (hO : isO h a0 8 = true) : Run 136 2 L [.int a1, .ref a0] h = (Run 99 0 [some (.ref a0), some (.int a1), none] [] h).bind fun o => aft 136 2 5 L [] o := Rcv (c := 99) (As := [.int a1]) (S' := []) (pc' := 5) 8 rfl hO
set_option maxRecDepth 100000 in
theorem e136_5 {L : Lo} {h : Hp} {x : Int32} : Run 136 5 L [.int x] h = some (.inl (some (.int x)), h) := Rd (if_pos (c := narrow .int (.int x) = .int x) rfl)
set_option maxRecDepth 100000 in
theorem e136_7 {L : Lo} {S : List Value} {h : Hp} : Run 136 7 L S h = Run 136 10 L (.int (-903) :: S) h := Rg rfl
set_option maxRecDepth 100000 in
theorem e136_10 {L : Lo} {h : Hp} {x : Int32} : Run 136 10 L [.int x] h = some (.inl (some (.int x)), h) := Rd (if_pos (c := narrow .int (.int x) = .int x) rfl)
set_option maxRecDepth 100000 in
theorem e136_12 {L : Lo} {S : List Value} {h : Hp} : Run 136 12 L S h = Run 136 15 L (.int (-902) :: S) h := Rg rfl
set_option maxRecDepth 100000 in
theorem e136_15 {L : Lo} {h : Hp} {x : Int32} : Run 136 15 L [.int x] h = some (.inl (some (.int x)), h) := Rd (if_pos (c := narrow .int (.int x) = .int x) rfl)
set_option maxRecDepth 100000 in
theorem e137_0 {L : Lo} {S : List Value} {h : Hp} {v : Nat} : Run 137 0 (some (.ref v) :: L) S h = Run 137 1 (some (.ref v) :: L) (.ref v :: S) h := Rg rfl
set_option maxRecDepth 100000 in
theorem e137_1 {L : Lo} {S : List Value} {h : Hp} {x0 : Option Value} {v : Int32} : Run 137 1 (x0 :: some (.int v) :: L) S h = Run 137 2 (x0 :: some (.int v) :: L) (.int v :: S) h := Rg rfl
set_option maxRecDepth 100000 in
theorem e137_2 {L : Lo} {h : Hp} {a1 : Int32} {a0 : Nat} (hO : isO h a0 8 = true) : Run 137 2 L [.int a1, .ref a0] h = (Run 100 0 [some (.ref a0), some (.int a1)] [] h).bind fun o => aft 137 2 5 L [] o := Rcv (c := 100) (As := [.int a1]) (S' := []) (pc' := 5) 8 rfl hO
set_option maxRecDepth 100000 in
theorem e137_5 {L : Lo} {h : Hp} {x : Int32} : Run 137 5 L [.int x] h = some (.inl (some (.int x)), h) := Rd (if_pos (c := narrow .int (.int x) = .int x) rfl)
set_option maxRecDepth 100000 in
theorem e137_7 {L : Lo} {S : List Value} {h : Hp} : Run 137 7 L S h = Run 137 10 L (.int (-903) :: S) h := Rg rfl
set_option maxRecDepth 100000 in
theorem e137_10 {L : Lo} {h : Hp} {x : Int32} : Run 137 10 L [.int x] h = some (.inl (some (.int x)), h) := Rd (if_pos (c := narrow .int (.int x) = .int x) rfl)
set_option maxRecDepth 100000 in
theorem e138_0 {L : Lo} {S : List Value} {h : Hp} {v : Nat} : Run 138 0 (some (.ref v) :: L) S h = Run 138 1 (some (.ref v) :: L) (.ref v :: S) h := Rg rfl
set_option maxRecDepth 100000 in
theorem e138_1 {L : Lo} {S : List Value} {h : Hp} {x0 : Option Value} {v : Int32} : Run 138 1 (x0 :: some (.int v) :: L) S h = Run 138 2 (x0 :: some (.int v) :: L) (.int v :: S) h := Rg rfl
set_option maxRecDepth 100000 in
theorem e138_2 {L : Lo} {S : List Value} {h : Hp} {x0 x1 : Option Value} {v : Int32} : Run 138 2 (x0 :: x1 :: some (.int v) :: L) S h = Run 138 3 (x0 :: x1 :: some (.int v) :: L) (.int v :: S) h := Rg rfl
set_option maxRecDepth 100000 in
theorem e138_3 {L : Lo} {h : Hp} {a2 : Int32} {a1 : Int32} {a0 : Nat} (hO : isO h a0 8 = true) : Run 138 3 L [.int a2, .int a1, .ref a0] h = (Run 101 0 [some (.ref a0), some (.int a1), some (.int a2)] [] h).bind fun o => aft 138 3 6 L [] o := Rcv (c := 101) (As := [.int a1, .int a2]) (S' := []) (pc' := 6) 8 rfl hO
set_option maxRecDepth 100000 in
theorem e138_6 {L : Lo} {h : Hp} {x : Int32} : Run 138 6 L [.int x] h = some (.inl (some (.int x)), h) := Rd (if_pos (c := narrow .int (.int x) = .int x) rfl)
set_option maxRecDepth 100000 in
theorem e138_8 {L : Lo} {S : List Value} {h : Hp} : Run 138 8 L S h = Run 138 11 L (.int (-903) :: S) h := Rg rfl
set_option maxRecDepth 100000 in
theorem e138_11 {L : Lo} {h : Hp} {x : Int32} : Run 138 11 L [.int x] h = some (.inl (some (.int x)), h) := Rd (if_pos (c := narrow .int (.int x) = .int x) rfl)
set_option maxRecDepth 100000 in
theorem e139_0 {L : Lo} {S : List Value} {h : Hp} {v : Nat} : Run 139 0 (some (.ref v) :: L) S h = Run 139 1 (some (.ref v) :: L) (.ref v :: S) h := Rg rfl
set_option maxRecDepth 100000 in
theorem e139_1 {L : Lo} {S : List Value} {h : Hp} {x0 : Option Value} {v : Int32} : Run 139 1 (x0 :: some (.int v) :: L) S h = Run 139 2 (x0 :: some (.int v) :: L) (.int v :: S) h := Rg rfl
set_option maxRecDepth 100000 in
theorem e139_2 {L : Lo} {h : Hp} {a1 : Int32} {a0 : Nat} (hO : isO h a0 8 = true) : Run 139 2 L [.int a1, .ref a0] h = (Run 102 0 [some (.ref a0), some (.int a1)] [] h).bind fun o => aft 139 2 5 L [] o := Rcv (c := 102) (As := [.int a1]) (S' := []) (pc' := 5) 8 rfl hO
set_option maxRecDepth 100000 in
theorem e139_5 {L : Lo} {h : Hp} {x : Int32} : Run 139 5 L [.int x] h = some (.inl (some (.int x)), h) := Rd (if_pos (c := narrow .int (.int x) = .int x) rfl)
set_option maxRecDepth 100000 in
theorem e139_7 {L : Lo} {S : List Value} {h : Hp} : Run 139 7 L S h = Run 139 10 L (.int (-903) :: S) h := Rg rfl
set_option maxRecDepth 100000 in
theorem e139_10 {L : Lo} {h : Hp} {x : Int32} : Run 139 10 L [.int x] h = some (.inl (some (.int x)), h) := Rd (if_pos (c := narrow .int (.int x) = .int x) rfl)
set_option maxRecDepth 100000 in
theorem e140_0 {L : Lo} {S : List Value} {h : Hp} {v : Nat} : Run 140 0 (some (.ref v) :: L) S h = Run 140 1 (some (.ref v) :: L) (.ref v :: S) h := Rg rfl
set_option maxRecDepth 100000 in
theorem e140_1 {L : Lo} {S : List Value} {h : Hp} {x0 : Option Value} {v : Int32} : Run 140 1 (x0 :: some (.int v) :: L) S h = Run 140 2 (x0 :: some (.int v) :: L) (.int v :: S) h := Rg rfl
set_option maxRecDepth 100000 in
theorem e140_2 {L : Lo} {h : Hp} {a1 : Int32} {a0 : Nat} (hO : isO h a0 8 = true) : Run 140 2 L [.int a1, .ref a0] h = (Run 103 0 [some (.ref a0), some (.int a1)] [] h).bind fun o => aft 140 2 5 L [] o := Rcv (c := 103) (As := [.int a1]) (S' := []) (pc' := 5) 8 rfl hO
set_option maxRecDepth 100000 in
theorem e140_5 {L : Lo} {h : Hp} {x : Int32} : Run 140 5 L [.int x] h = some (.inl (some (.int x)), h) := Rd (if_pos (c := narrow .int (.int x) = .int x) rfl)
set_option maxRecDepth 100000 in
theorem e140_7 {L : Lo} {S : List Value} {h : Hp} : Run 140 7 L S h = Run 140 10 L (.int (-903) :: S) h := Rg rfl
set_option maxRecDepth 100000 in
theorem e140_10 {L : Lo} {h : Hp} {x : Int32} : Run 140 10 L [.int x] h = some (.inl (some (.int x)), h) := Rd (if_pos (c := narrow .int (.int x) = .int x) rfl)
set_option maxRecDepth 100000 in
theorem e141_0 {L : Lo} {S : List Value} {h : Hp} {v : Nat} : Run 141 0 (some (.ref v) :: L) S h = Run 141 1 (some (.ref v) :: L) (.ref v :: S) h := Rg rfl
set_option maxRecDepth 100000 in
theorem e141_1 {L : Lo} {S : List Value} {h : Hp} {x0 : Option Value} {v : Int32} : Run 141 1 (x0 :: some (.int v) :: L) S h = Run 141 2 (x0 :: some (.int v) :: L) (.int v :: S) h := Rg rfl
set_option maxRecDepth 100000 in
theorem e141_2 {L : Lo} {h : Hp} {a1 : Int32} {a0 : Nat} (hO : isO h a0 8 = true) : Run 141 2 L [.int a1, .ref a0] h = (Run 104 0 [some (.ref a0), some (.int a1), none, none] [] h).bind fun o => aft 141 2 5 L [] o := Rcv (c := 104) (As := [.int a1]) (S' := []) (pc' := 5) 8 rfl hO
set_option maxRecDepth 100000 in
theorem e141_5 {L : Lo} {h : Hp} {x : UInt64} : Run 141 5 L [.double x] h = some (.inl (some (.double x)), h) := Rd rfl
set_option maxRecDepth 100000 in
theorem e141_7 {L : Lo} {S : List Value} {h : Hp} : Run 141 7 L S h = Run 141 10 L (.double (13874508532486766592 : UInt64) :: S) h := Rg rfl
set_option maxRecDepth 100000 in
theorem e141_10 {L : Lo} {h : Hp} {x : UInt64} : Run 141 10 L [.double x] h = some (.inl (some (.double x)), h) := Rd rfl
set_option maxRecDepth 100000 in
theorem e142_0 {L : Lo} {S : List Value} {h : Hp} {v : Nat} : Run 142 0 (some (.ref v) :: L) S h = Run 142 1 (some (.ref v) :: L) (.ref v :: S) h := Rg rfl
set_option maxRecDepth 100000 in
theorem e142_1 {L : Lo} {S : List Value} {h : Hp} {x0 : Option Value} {v : Int32} : Run 142 1 (x0 :: some (.int v) :: L) S h = Run 142 2 (x0 :: some (.int v) :: L) (.int v :: S) h := Rg rfl
set_option maxRecDepth 100000 in
theorem e142_2 {L : Lo} {h : Hp} {a1 : Int32} {a0 : Nat} (hO : isO h a0 8 = true) : Run 142 2 L [.int a1, .ref a0] h = (Run 105 0 [some (.ref a0), some (.int a1)] [] h).bind fun o => aft 142 2 5 L [] o := Rcv (c := 105) (As := [.int a1]) (S' := []) (pc' := 5) 8 rfl hO
set_option maxRecDepth 100000 in
theorem e142_5 {L : Lo} {h : Hp} {x : Int32} : Run 142 5 L [.int x] h = some (.inl (some (.int x)), h) := Rd (if_pos (c := narrow .int (.int x) = .int x) rfl)
set_option maxRecDepth 100000 in
theorem e142_7 {L : Lo} {S : List Value} {h : Hp} : Run 142 7 L S h = Run 142 10 L (.int (-901) :: S) h := Rg rfl
set_option maxRecDepth 100000 in
theorem e142_10 {L : Lo} {h : Hp} {x : Int32} : Run 142 10 L [.int x] h = some (.inl (some (.int x)), h) := Rd (if_pos (c := narrow .int (.int x) = .int x) rfl)
set_option maxRecDepth 100000 in
theorem e142_12 {L : Lo} {S : List Value} {h : Hp} : Run 142 12 L S h = Run 142 15 L (.int (-902) :: S) h := Rg rfl
set_option maxRecDepth 100000 in
theorem e142_15 {L : Lo} {h : Hp} {x : Int32} : Run 142 15 L [.int x] h = some (.inl (some (.int x)), h) := Rd (if_pos (c := narrow .int (.int x) = .int x) rfl)
set_option maxRecDepth 100000 in
theorem e143_0 {L : Lo} {S : List Value} {h : Hp} {v : Nat} : Run 143 0 (some (.ref v) :: L) S h = Run 143 1 (some (.ref v) :: L) (.ref v :: S) h := Rg rfl
set_option maxRecDepth 100000 in
theorem e143_1 {L : Lo} {h : Hp} {a0 : Nat} (hO : isO h a0 8 = true) : Run 143 1 L [.ref a0] h = (Run 107 0 [some (.ref a0)] [] h).bind fun o => aft 143 1 4 L [] o := Rcv (c := 107) (As := []) (S' := []) (pc' := 4) 8 rfl hO
set_option maxRecDepth 100000 in
theorem e143_4 {L : Lo} {h : Hp} {x : Int32} : Run 143 4 L [.int x] h = some (.inl (some (.int x)), h) := Rd (if_pos (c := narrow .int (.int x) = .int x) rfl)
set_option maxRecDepth 100000 in
theorem e143_6 {L : Lo} {S : List Value} {h : Hp} : Run 143 6 L S h = Run 143 9 L (.int (-902) :: S) h := Rg rfl
set_option maxRecDepth 100000 in
theorem e143_9 {L : Lo} {h : Hp} {x : Int32} : Run 143 9 L [.int x] h = some (.inl (some (.int x)), h) := Rd (if_pos (c := narrow .int (.int x) = .int x) rfl)
set_option maxRecDepth 100000 in
theorem e144_0 {L : Lo} {S : List Value} {h : Hp} {v : Nat} : Run 144 0 (some (.ref v) :: L) S h = Run 144 1 (some (.ref v) :: L) (.ref v :: S) h := Rg rfl
set_option maxRecDepth 100000 in
theorem e144_1 {L : Lo} {S : List Value} {h : Hp} : Run 144 1 L S h = Run 144 2 L (.int 0 :: S) h := Rg rfl
set_option maxRecDepth 100000 in
theorem e144_2 {L : Lo} {h : Hp} {a1 : Int32} {a0 : Nat} : Run 144 2 L [.int a1, .ref a0] h = (Run 125 0 [some (.ref a0), some (.int a1), none] [] h).bind fun o => aft 144 2 5 L [] o := Rc (c := 125) (As := [.ref a0, .int a1]) (S' := []) (pc' := 5) rfl
set_option maxRecDepth 100000 in
theorem e144_5 {L : Lo} {S : List Value} {h : Hp} {v : Nat} : Run 144 5 (some (.ref v) :: L) S h = Run 144 6 (some (.ref v) :: L) (.ref v :: S) h := Rg rfl
set_option maxRecDepth 100000 in
theorem e144_6 {L : Lo} {S : List Value} {h : Hp} : Run 144 6 L S h = Run 144 7 L (.int 1 :: S) h := Rg rfl
set_option maxRecDepth 100000 in
theorem e144_7 {L : Lo} {h : Hp} {a2 : Int32} {a1 : Nat} {a0 : Int32} : Run 144 7 L [.int a2, .ref a1, .int a0] h = (Run 125 0 [some (.ref a1), some (.int a2), none] [] h).bind fun o => aft 144 7 10 L [.int a0] o := Rc (c := 125) (As := [.ref a1, .int a2]) (S' := [.int a0]) (pc' := 10) rfl
set_option maxRecDepth 100000 in
theorem e144_10 {L : Lo} {S : List Value} {h : Hp} {x z : Int32} : Run 144 10 L (.int z :: .int x :: S) h = Run 144 11 L (.int (x * z) :: S) h := Rg rfl
set_option maxRecDepth 100000 in
theorem e144_11 {L : Lo} {S : List Value} {h : Hp} {x0 : Option Value} {y : Option Value} {v : Int32} : Run 144 11 (x0 :: y :: L) (.int v :: S) h = Run 144 12 (ck x0 :: some (.int v) :: L) S h := Rg rfl
set_option maxRecDepth 100000 in
theorem e144_12 {L : Lo} {S : List Value} {h : Hp} {v : Nat} : Run 144 12 (some (.ref v) :: L) S h = Run 144 13 (some (.ref v) :: L) (.ref v :: S) h := Rg rfl
set_option maxRecDepth 100000 in
theorem e144_13 {L : Lo} {S : List Value} {h : Hp} : Run 144 13 L S h = Run 144 14 L (.int 5 :: S) h := Rg rfl
set_option maxRecDepth 100000 in
theorem e144_14 {L : Lo} {h : Hp} {a1 : Int32} {a0 : Nat} : Run 144 14 L [.int a1, .ref a0] h = (Run 125 0 [some (.ref a0), some (.int a1), none] [] h).bind fun o => aft 144 14 17 L [] o := Rc (c := 125) (As := [.ref a0, .int a1]) (S' := []) (pc' := 17) rfl
set_option maxRecDepth 100000 in
theorem e144_17 {L : Lo} {S : List Value} {h : Hp} {x0 x1 : Option Value} {y : Option Value} {v : Int32} : Run 144 17 (x0 :: x1 :: y :: L) (.int v :: S) h = Run 144 18 (x0 :: ck x1 :: some (.int v) :: L) S h := Rg rfl
set_option maxRecDepth 100000 in
theorem e144_18 {L : Lo} {S : List Value} {h : Hp} : Run 144 18 L S h = Run 144 19 L (.int 0 :: S) h := Rg rfl
set_option maxRecDepth 100000 in
theorem e144_19 {L : Lo} {S : List Value} {h : Hp} {x0 x1 x2 : Option Value} {y : Option Value} {v : Int32} : Run 144 19 (x0 :: x1 :: x2 :: y :: L) (.int v :: S) h = Run 144 20 (x0 :: x1 :: ck x2 :: some (.int v) :: L) S h := Rg rfl
set_option maxRecDepth 100000 in
theorem e144_20 {L : Lo} {S : List Value} {h : Hp} : Run 144 20 L S h = Run 144 21 L (.int 0 :: S) h := Rg rfl
set_option maxRecDepth 100000 in
theorem e144_21 {L : Lo} {S : List Value} {h : Hp} {x0 x1 x2 x3 : Option Value} {y : Option Value} {v : Int32} : Run 144 21 (x0 :: x1 :: x2 :: x3 :: y :: L) (.int v :: S) h = Run 144 23 (x0 :: x1 :: x2 :: ck x3 :: some (.int v) :: L) S h := Rg rfl
set_option maxRecDepth 100000 in
theorem e144_23 {L : Lo} {S : List Value} {h : Hp} : Run 144 23 L S h = Run 144 24 L (.int 0 :: S) h := Rg rfl
set_option maxRecDepth 100000 in
theorem e144_24 {L : Lo} {S : List Value} {h : Hp} {x0 x1 x2 x3 x4 : Option Value} {y : Option Value} {v : Int32} : Run 144 24 (x0 :: x1 :: x2 :: x3 :: x4 :: y :: L) (.int v :: S) h = Run 144 26 (x0 :: x1 :: x2 :: x3 :: ck x4 :: some (.int v) :: L) S h := Rg rfl
set_option maxRecDepth 100000 in
theorem e144_26 {L : Lo} {S : List Value} {h : Hp} : Run 144 26 L S h = Run 144 27 L (.int 0 :: S) h := Rg rfl
set_option maxRecDepth 100000 in
theorem e144_27 {L : Lo} {S : List Value} {h : Hp} {x0 x1 x2 x3 x4 x5 : Option Value} {y : Option Value} {v : Int32} : Run 144 27 (x0 :: x1 :: x2 :: x3 :: x4 :: x5 :: y :: L) (.int v :: S) h = Run 144 29 (x0 :: x1 :: x2 :: x3 :: x4 :: ck x5 :: some (.int v) :: L) S h := Rg rfl
set_option maxRecDepth 100000 in
theorem e144_29 {L : Lo} {S : List Value} {h : Hp} {x0 x1 x2 x3 x4 x5 : Option Value} {v : Int32} : Run 144 29 (x0 :: x1 :: x2 :: x3 :: x4 :: x5 :: some (.int v) :: L) S h = Run 144 31 (x0 :: x1 :: x2 :: x3 :: x4 :: x5 :: some (.int v) :: L) (.int v :: S) h := Rg rfl
set_option maxRecDepth 100000 in
theorem e144_31 {L : Lo} {S : List Value} {h : Hp} {x0 : Option Value} {v : Int32} : Run 144 31 (x0 :: some (.int v) :: L) S h = Run 144 32 (x0 :: some (.int v) :: L) (.int v :: S) h := Rg rfl
set_option maxRecDepth 100000 in
theorem e144_32 {L : Lo} {S : List Value} {h : Hp} {x z : Int32} : Run 144 32 L (.int z :: .int x :: S) h = if z ≤ x then Run 144 111 L S h else Run 144 35 L S h := Rbr (c := cnd .ge x z = true) (off := 79) rfl rfl cnd_ge
set_option maxRecDepth 100000 in
theorem e144_35 {L : Lo} {S : List Value} {h : Hp} {v : Nat} : Run 144 35 (some (.ref v) :: L) S h = Run 144 36 (some (.ref v) :: L) (.ref v :: S) h := Rg rfl
set_option maxRecDepth 100000 in
theorem e144_36 {L : Lo} {S : List Value} {h : Hp} {x0 x1 x2 x3 x4 x5 : Option Value} {v : Int32} : Run 144 36 (x0 :: x1 :: x2 :: x3 :: x4 :: x5 :: some (.int v) :: L) S h = Run 144 38 (x0 :: x1 :: x2 :: x3 :: x4 :: x5 :: some (.int v) :: L) (.int v :: S) h := Rg rfl
set_option maxRecDepth 100000 in
theorem e144_38 {L : Lo} {h : Hp} {a1 : Int32} {a0 : Nat} : Run 144 38 L [.int a1, .ref a0] h = (Run 127 0 [some (.ref a0), some (.int a1), none] [] h).bind fun o => aft 144 38 41 L [] o := Rc (c := 127) (As := [.ref a0, .int a1]) (S' := []) (pc' := 41) rfl
set_option maxRecDepth 100000 in
theorem e144_41 {L : Lo} {S : List Value} {h : Hp} {x0 x1 x2 x3 x4 x5 x6 : Option Value} {y : Option Value} {v : Int32} : Run 144 41 (x0 :: x1 :: x2 :: x3 :: x4 :: x5 :: x6 :: y :: L) (.int v :: S) h = Run 144 43 (x0 :: x1 :: x2 :: x3 :: x4 :: x5 :: ck x6 :: some (.int v) :: L) S h := Rg rfl
set_option maxRecDepth 100000 in
theorem e144_43 {L : Lo} {S : List Value} {h : Hp} {x0 x1 x2 x3 : Option Value} {v : Int32} : Run 144 43 (x0 :: x1 :: x2 :: x3 :: some (.int v) :: L) S h = Run 144 45 (x0 :: x1 :: x2 :: x3 :: some (.int v) :: L) (.int v :: S) h := Rg rfl
set_option maxRecDepth 100000 in
theorem e144_45 {L : Lo} {S : List Value} {h : Hp} {x0 x1 x2 x3 x4 x5 x6 : Option Value} {v : Int32} : Run 144 45 (x0 :: x1 :: x2 :: x3 :: x4 :: x5 :: x6 :: some (.int v) :: L) S h = Run 144 47 (x0 :: x1 :: x2 :: x3 :: x4 :: x5 :: x6 :: some (.int v) :: L) (.int v :: S) h := Rg rfl
set_option maxRecDepth 100000 in
theorem e144_47 {L : Lo} {S : List Value} {h : Hp} : Run 144 47 L S h = Run 144 49 L (.int (-2) :: S) h := Rg rfl
set_option maxRecDepth 100000 in
theorem e144_49 {L : Lo} {S : List Value} {h : Hp} {x z : Int32} : Run 144 49 L (.int z :: .int x :: S) h = if x = z then Run 144 52 L S h else Run 144 56 L S h := RbrN (c := cnd .ne x z = true) (off := 7) rfl rfl cnd_ne
set_option maxRecDepth 100000 in
theorem e144_52 {L : Lo} {S : List Value} {h : Hp} : Run 144 52 L S h = Run 144 53 L (.int 1 :: S) h := Rg rfl
set_option maxRecDepth 100000 in
theorem e144_53 {L : Lo} {S : List Value} {h : Hp} : Run 144 53 L S h = Run 144 57 L S h := Rg rfl
set_option maxRecDepth 100000 in
theorem e144_56 {L : Lo} {S : List Value} {h : Hp} : Run 144 56 L S h = Run 144 57 L (.int 0 :: S) h := Rg rfl
set_option maxRecDepth 100000 in
theorem e144_57 {L : Lo} {S : List Value} {h : Hp} {x z : Int32} : Run 144 57 L (.int z :: .int x :: S) h = Run 144 58 L (.int (x + z) :: S) h := Rg rfl
set_option maxRecDepth 100000 in
theorem e144_58 {L : Lo} {S : List Value} {h : Hp} {x0 x1 x2 x3 : Option Value} {y : Option Value} {v : Int32} : Run 144 58 (x0 :: x1 :: x2 :: x3 :: y :: L) (.int v :: S) h = Run 144 60 (x0 :: x1 :: x2 :: ck x3 :: some (.int v) :: L) S h := Rg rfl
set_option maxRecDepth 100000 in
theorem e144_60 {L : Lo} {S : List Value} {h : Hp} {x0 x1 x2 : Option Value} {v : Int32} : Run 144 60 (x0 :: x1 :: x2 :: some (.int v) :: L) S h = Run 144 61 (x0 :: x1 :: x2 :: some (.int v) :: L) (.int v :: S) h := Rg rfl
set_option maxRecDepth 100000 in
theorem e144_61 {L : Lo} {S : List Value} {h : Hp} {x0 x1 x2 x3 x4 x5 x6 : Option Value} {v : Int32} : Run 144 61 (x0 :: x1 :: x2 :: x3 :: x4 :: x5 :: x6 :: some (.int v) :: L) S h = Run 144 63 (x0 :: x1 :: x2 :: x3 :: x4 :: x5 :: x6 :: some (.int v) :: L) (.int v :: S) h := Rg rfl
set_option maxRecDepth 100000 in
theorem e144_63 {L : Lo} {S : List Value} {h : Hp} {x : Int32} : Run 144 63 L (.int x :: S) h = if x < 0 then Run 144 70 L S h else Run 144 66 L S h := Rbr (c := cnd .lt x 0 = true) (off := 7) rfl rfl cnd_lt
set_option maxRecDepth 100000 in
theorem e144_66 {L : Lo} {S : List Value} {h : Hp} : Run 144 66 L S h = Run 144 67 L (.int 1 :: S) h := Rg rfl
set_option maxRecDepth 100000 in
theorem e144_67 {L : Lo} {S : List Value} {h : Hp} : Run 144 67 L S h = Run 144 71 L S h := Rg rfl
set_option maxRecDepth 100000 in
theorem e144_70 {L : Lo} {S : List Value} {h : Hp} : Run 144 70 L S h = Run 144 71 L (.int 0 :: S) h := Rg rfl
set_option maxRecDepth 100000 in
theorem e144_71 {L : Lo} {S : List Value} {h : Hp} {x z : Int32} : Run 144 71 L (.int z :: .int x :: S) h = Run 144 72 L (.int (x + z) :: S) h := Rg rfl
set_option maxRecDepth 100000 in
theorem e144_72 {L : Lo} {S : List Value} {h : Hp} {x0 x1 x2 : Option Value} {y : Option Value} {v : Int32} : Run 144 72 (x0 :: x1 :: x2 :: y :: L) (.int v :: S) h = Run 144 73 (x0 :: x1 :: ck x2 :: some (.int v) :: L) S h := Rg rfl
set_option maxRecDepth 100000 in
theorem e144_73 {L : Lo} {S : List Value} {h : Hp} {x0 x1 x2 x3 x4 x5 x6 : Option Value} {v : Int32} : Run 144 73 (x0 :: x1 :: x2 :: x3 :: x4 :: x5 :: x6 :: some (.int v) :: L) S h = Run 144 75 (x0 :: x1 :: x2 :: x3 :: x4 :: x5 :: x6 :: some (.int v) :: L) (.int v :: S) h := Rg rfl
set_option maxRecDepth 100000 in
theorem e144_75 {L : Lo} {S : List Value} {h : Hp} : Run 144 75 L S h = Run 144 77 L (.int (-2) :: S) h := Rg rfl
set_option maxRecDepth 100000 in
theorem e144_77 {L : Lo} {S : List Value} {h : Hp} {x z : Int32} : Run 144 77 L (.int z :: .int x :: S) h = if x < z then Run 144 103 L S h else Run 144 80 L S h := Rbr (c := cnd .lt x z = true) (off := 26) rfl rfl cnd_lt
set_option maxRecDepth 100000 in
theorem e144_80 {L : Lo} {S : List Value} {h : Hp} {x0 x1 x2 x3 x4 x5 x6 : Option Value} {v : Int32} : Run 144 80 (x0 :: x1 :: x2 :: x3 :: x4 :: x5 :: x6 :: some (.int v) :: L) S h = Run 144 82 (x0 :: x1 :: x2 :: x3 :: x4 :: x5 :: x6 :: some (.int v) :: L) (.int v :: S) h := Rg rfl
set_option maxRecDepth 100000 in
theorem e144_82 {L : Lo} {S : List Value} {h : Hp} {x0 x1 : Option Value} {v : Int32} : Run 144 82 (x0 :: x1 :: some (.int v) :: L) S h = Run 144 83 (x0 :: x1 :: some (.int v) :: L) (.int v :: S) h := Rg rfl
set_option maxRecDepth 100000 in
theorem e144_83 {L : Lo} {S : List Value} {h : Hp} {x z : Int32} : Run 144 83 L (.int z :: .int x :: S) h = if z ≤ x then Run 144 103 L S h else Run 144 86 L S h := Rbr (c := cnd .ge x z = true) (off := 20) rfl rfl cnd_ge
set_option maxRecDepth 100000 in
theorem e144_86 {L : Lo} {S : List Value} {h : Hp} {x0 x1 x2 x3 x4 x5 x6 : Option Value} {v : Int32} : Run 144 86 (x0 :: x1 :: x2 :: x3 :: x4 :: x5 :: x6 :: some (.int v) :: L) S h = Run 144 88 (x0 :: x1 :: x2 :: x3 :: x4 :: x5 :: x6 :: some (.int v) :: L) (.int v :: S) h := Rg rfl
set_option maxRecDepth 100000 in
theorem e144_88 {L : Lo} {S : List Value} {h : Hp} {x : Int32} : Run 144 88 L (.int x :: S) h = if x < 0 then Run 144 105 L S h else Run 144 91 L S h := Rbr (c := cnd .lt x 0 = true) (off := 17) rfl rfl cnd_lt
set_option maxRecDepth 100000 in
theorem e144_91 {L : Lo} {S : List Value} {h : Hp} {v : Nat} : Run 144 91 (some (.ref v) :: L) S h = Run 144 92 (some (.ref v) :: L) (.ref v :: S) h := Rg rfl
set_option maxRecDepth 100000 in
theorem e144_92 {L : Lo} {S : List Value} {h : Hp} {x0 x1 x2 x3 x4 x5 x6 : Option Value} {v : Int32} : Run 144 92 (x0 :: x1 :: x2 :: x3 :: x4 :: x5 :: x6 :: some (.int v) :: L) S h = Run 144 94 (x0 :: x1 :: x2 :: x3 :: x4 :: x5 :: x6 :: some (.int v) :: L) (.int v :: S) h := Rg rfl
set_option maxRecDepth 100000 in
theorem e144_94 {L : Lo} {S : List Value} {h : Hp} : Run 144 94 L S h = Run 144 95 L (.int 1 :: S) h := Rg rfl
set_option maxRecDepth 100000 in
theorem e144_95 {L : Lo} {h : Hp} {a2 : Int32} {a1 : Int32} {a0 : Nat} : Run 144 95 L [.int a2, .int a1, .ref a0] h = (Run 126 0 [some (.ref a0), some (.int a1), some (.int a2), none] [] h).bind fun o => aft 144 95 98 L [] o := Rc (c := 126) (As := [.ref a0, .int a1, .int a2]) (S' := []) (pc' := 98) rfl
set_option maxRecDepth 100000 in
theorem e144_98 {L : Lo} {S : List Value} {h : Hp} {x0 x1 x2 x3 x4 x5 : Option Value} {v : Int32} : Run 144 98 (x0 :: x1 :: x2 :: x3 :: x4 :: x5 :: some (.int v) :: L) S h = Run 144 100 (x0 :: x1 :: x2 :: x3 :: x4 :: x5 :: some (.int v) :: L) (.int v :: S) h := Rg rfl
set_option maxRecDepth 100000 in
theorem e144_100 {L : Lo} {S : List Value} {h : Hp} {x z : Int32} : Run 144 100 L (.int z :: .int x :: S) h = if x = z then Run 144 105 L S h else Run 144 103 L S h := Rbr (c := cnd .eq x z = true) (off := 5) rfl rfl cnd_eq
set_option maxRecDepth 100000 in
theorem e144_103 {L : Lo} {S : List Value} {h : Hp} : Run 144 103 L S h = Run 144 104 L (.int 0 :: S) h := Rg rfl
set_option maxRecDepth 100000 in
theorem e144_104 {L : Lo} {h : Hp} {x : Int32} (hx : narrow .boolean (.int x) = .int x) : Run 144 104 L [.int x] h = some (.inl (some (.int x)), h) := Rd (if_pos hx)
set_option maxRecDepth 100000 in
theorem e144_105 {L : Lo} {S : List Value} {h : Hp} {x0 x1 x2 x3 x4 x5 : Option Value} {v : Int32} : Run 144 105 (x0 :: x1 :: x2 :: x3 :: x4 :: x5 :: some (.int v) :: L) S h = Run 144 108 (x0 :: x1 :: x2 :: x3 :: x4 :: x5 :: some (.int (v + 1)) :: L) S h := Rg rfl
set_option maxRecDepth 100000 in
theorem e144_108 {L : Lo} {S : List Value} {h : Hp} : Run 144 108 L S h = Run 144 29 L S h := Rg rfl
set_option maxRecDepth 100000 in
theorem e144_111 {L : Lo} {S : List Value} {h : Hp} : Run 144 111 L S h = Run 144 112 L (.int 0 :: S) h := Rg rfl
set_option maxRecDepth 100000 in
theorem e144_112 {L : Lo} {S : List Value} {h : Hp} {x0 x1 x2 x3 x4 x5 : Option Value} {y : Option Value} {v : Int32} : Run 144 112 (x0 :: x1 :: x2 :: x3 :: x4 :: x5 :: y :: L) (.int v :: S) h = Run 144 114 (x0 :: x1 :: x2 :: x3 :: x4 :: ck x5 :: some (.int v) :: L) S h := Rg rfl
set_option maxRecDepth 100000 in
theorem e144_114 {L : Lo} {S : List Value} {h : Hp} {x0 x1 x2 x3 x4 x5 : Option Value} {v : Int32} : Run 144 114 (x0 :: x1 :: x2 :: x3 :: x4 :: x5 :: some (.int v) :: L) S h = Run 144 116 (x0 :: x1 :: x2 :: x3 :: x4 :: x5 :: some (.int v) :: L) (.int v :: S) h := Rg rfl
set_option maxRecDepth 100000 in
theorem e144_116 {L : Lo} {S : List Value} {h : Hp} {x0 x1 : Option Value} {v : Int32} : Run 144 116 (x0 :: x1 :: some (.int v) :: L) S h = Run 144 117 (x0 :: x1 :: some (.int v) :: L) (.int v :: S) h := Rg rfl
set_option maxRecDepth 100000 in
theorem e144_117 {L : Lo} {S : List Value} {h : Hp} {x z : Int32} : Run 144 117 L (.int z :: .int x :: S) h = if z ≤ x then Run 144 484 L S h else Run 144 120 L S h := Rbr (c := cnd .ge x z = true) (off := 367) rfl rfl cnd_ge
set_option maxRecDepth 100000 in
theorem e144_120 {L : Lo} {S : List Value} {h : Hp} {v : Nat} : Run 144 120 (some (.ref v) :: L) S h = Run 144 121 (some (.ref v) :: L) (.ref v :: S) h := Rg rfl
set_option maxRecDepth 100000 in
theorem e144_121 {L : Lo} {S : List Value} {h : Hp} {x0 x1 x2 x3 x4 x5 : Option Value} {v : Int32} : Run 144 121 (x0 :: x1 :: x2 :: x3 :: x4 :: x5 :: some (.int v) :: L) S h = Run 144 123 (x0 :: x1 :: x2 :: x3 :: x4 :: x5 :: some (.int v) :: L) (.int v :: S) h := Rg rfl
set_option maxRecDepth 100000 in
theorem e144_123 {L : Lo} {S : List Value} {h : Hp} : Run 144 123 L S h = Run 144 124 L (.int 3 :: S) h := Rg rfl
set_option maxRecDepth 100000 in
theorem e144_124 {L : Lo} {h : Hp} {a2 : Int32} {a1 : Int32} {a0 : Nat} : Run 144 124 L [.int a2, .int a1, .ref a0] h = (Run 126 0 [some (.ref a0), some (.int a1), some (.int a2), none] [] h).bind fun o => aft 144 124 127 L [] o := Rc (c := 126) (As := [.ref a0, .int a1, .int a2]) (S' := []) (pc' := 127) rfl
set_option maxRecDepth 100000 in
theorem e144_127 {L : Lo} {S : List Value} {h : Hp} {x0 x1 x2 x3 x4 x5 x6 : Option Value} {y : Option Value} {v : Int32} : Run 144 127 (x0 :: x1 :: x2 :: x3 :: x4 :: x5 :: x6 :: y :: L) (.int v :: S) h = Run 144 129 (x0 :: x1 :: x2 :: x3 :: x4 :: x5 :: ck x6 :: some (.int v) :: L) S h := Rg rfl
set_option maxRecDepth 100000 in
theorem e144_129 {L : Lo} {S : List Value} {h : Hp} {v : Nat} : Run 144 129 (some (.ref v) :: L) S h = Run 144 130 (some (.ref v) :: L) (.ref v :: S) h := Rg rfl
set_option maxRecDepth 100000 in
theorem e144_130 {L : Lo} {S : List Value} {h : Hp} {x0 x1 x2 x3 x4 x5 : Option Value} {v : Int32} : Run 144 130 (x0 :: x1 :: x2 :: x3 :: x4 :: x5 :: some (.int v) :: L) S h = Run 144 132 (x0 :: x1 :: x2 :: x3 :: x4 :: x5 :: some (.int v) :: L) (.int v :: S) h := Rg rfl
set_option maxRecDepth 100000 in
theorem e144_132 {L : Lo} {S : List Value} {h : Hp} : Run 144 132 L S h = Run 144 133 L (.int 1 :: S) h := Rg rfl
set_option maxRecDepth 100000 in
theorem e144_133 {L : Lo} {h : Hp} {a2 : Int32} {a1 : Int32} {a0 : Nat} : Run 144 133 L [.int a2, .int a1, .ref a0] h = (Run 126 0 [some (.ref a0), some (.int a1), some (.int a2), none] [] h).bind fun o => aft 144 133 136 L [] o := Rc (c := 126) (As := [.ref a0, .int a1, .int a2]) (S' := []) (pc' := 136) rfl
set_option maxRecDepth 100000 in
theorem e144_136 {L : Lo} {S : List Value} {h : Hp} {x0 x1 x2 x3 x4 x5 x6 x7 : Option Value} {y : Option Value} {v : Int32} : Run 144 136 (x0 :: x1 :: x2 :: x3 :: x4 :: x5 :: x6 :: x7 :: y :: L) (.int v :: S) h = Run 144 138 (x0 :: x1 :: x2 :: x3 :: x4 :: x5 :: x6 :: ck x7 :: some (.int v) :: L) S h := Rg rfl
set_option maxRecDepth 100000 in
theorem e144_138 {L : Lo} {S : List Value} {h : Hp} {v : Nat} : Run 144 138 (some (.ref v) :: L) S h = Run 144 139 (some (.ref v) :: L) (.ref v :: S) h := Rg rfl
set_option maxRecDepth 100000 in
theorem e144_139 {L : Lo} {S : List Value} {h : Hp} {x0 x1 x2 x3 x4 x5 : Option Value} {v : Int32} : Run 144 139 (x0 :: x1 :: x2 :: x3 :: x4 :: x5 :: some (.int v) :: L) S h = Run 144 141 (x0 :: x1 :: x2 :: x3 :: x4 :: x5 :: some (.int v) :: L) (.int v :: S) h := Rg rfl
set_option maxRecDepth 100000 in
theorem e144_141 {L : Lo} {S : List Value} {h : Hp} : Run 144 141 L S h = Run 144 143 L (.int 11 :: S) h := Rg rfl
set_option maxRecDepth 100000 in
theorem e144_143 {L : Lo} {h : Hp} {a2 : Int32} {a1 : Int32} {a0 : Nat} : Run 144 143 L [.int a2, .int a1, .ref a0] h = (Run 126 0 [some (.ref a0), some (.int a1), some (.int a2), none] [] h).bind fun o => aft 144 143 146 L [] o := Rc (c := 126) (As := [.ref a0, .int a1, .int a2]) (S' := []) (pc' := 146) rfl
set_option maxRecDepth 100000 in
theorem e144_146 {L : Lo} {S : List Value} {h : Hp} {x0 x1 x2 x3 x4 x5 x6 x7 x8 : Option Value} {y : Option Value} {v : Int32} : Run 144 146 (x0 :: x1 :: x2 :: x3 :: x4 :: x5 :: x6 :: x7 :: x8 :: y :: L) (.int v :: S) h = Run 144 148 (x0 :: x1 :: x2 :: x3 :: x4 :: x5 :: x6 :: x7 :: ck x8 :: some (.int v) :: L) S h := Rg rfl
set_option maxRecDepth 100000 in
theorem e144_148 {L : Lo} {S : List Value} {h : Hp} {v : Nat} : Run 144 148 (some (.ref v) :: L) S h = Run 144 149 (some (.ref v) :: L) (.ref v :: S) h := Rg rfl
set_option maxRecDepth 100000 in
theorem e144_149 {L : Lo} {S : List Value} {h : Hp} {x0 x1 x2 x3 x4 x5 : Option Value} {v : Int32} : Run 144 149 (x0 :: x1 :: x2 :: x3 :: x4 :: x5 :: some (.int v) :: L) S h = Run 144 151 (x0 :: x1 :: x2 :: x3 :: x4 :: x5 :: some (.int v) :: L) (.int v :: S) h := Rg rfl
set_option maxRecDepth 100000 in
theorem e144_151 {L : Lo} {S : List Value} {h : Hp} : Run 144 151 L S h = Run 144 152 L (.int 4 :: S) h := Rg rfl
set_option maxRecDepth 100000 in
theorem e144_152 {L : Lo} {h : Hp} {a2 : Int32} {a1 : Int32} {a0 : Nat} : Run 144 152 L [.int a2, .int a1, .ref a0] h = (Run 126 0 [some (.ref a0), some (.int a1), some (.int a2), none] [] h).bind fun o => aft 144 152 155 L [] o := Rc (c := 126) (As := [.ref a0, .int a1, .int a2]) (S' := []) (pc' := 155) rfl
set_option maxRecDepth 100000 in
theorem e144_155 {L : Lo} {S : List Value} {h : Hp} {x0 x1 x2 x3 x4 x5 x6 x7 x8 x9 : Option Value} {y : Option Value} {v : Int32} : Run 144 155 (x0 :: x1 :: x2 :: x3 :: x4 :: x5 :: x6 :: x7 :: x8 :: x9 :: y :: L) (.int v :: S) h = Run 144 157 (x0 :: x1 :: x2 :: x3 :: x4 :: x5 :: x6 :: x7 :: x8 :: ck x9 :: some (.int v) :: L) S h := Rg rfl
set_option maxRecDepth 100000 in
theorem e144_157 {L : Lo} {S : List Value} {h : Hp} {v : Nat} : Run 144 157 (some (.ref v) :: L) S h = Run 144 158 (some (.ref v) :: L) (.ref v :: S) h := Rg rfl
set_option maxRecDepth 100000 in
theorem e144_158 {L : Lo} {S : List Value} {h : Hp} {x0 x1 x2 x3 x4 x5 : Option Value} {v : Int32} : Run 144 158 (x0 :: x1 :: x2 :: x3 :: x4 :: x5 :: some (.int v) :: L) S h = Run 144 160 (x0 :: x1 :: x2 :: x3 :: x4 :: x5 :: some (.int v) :: L) (.int v :: S) h := Rg rfl
set_option maxRecDepth 100000 in
theorem e144_160 {L : Lo} {S : List Value} {h : Hp} : Run 144 160 L S h = Run 144 162 L (.int 12 :: S) h := Rg rfl
set_option maxRecDepth 100000 in
theorem e144_162 {L : Lo} {h : Hp} {a2 : Int32} {a1 : Int32} {a0 : Nat} : Run 144 162 L [.int a2, .int a1, .ref a0] h = (Run 126 0 [some (.ref a0), some (.int a1), some (.int a2), none] [] h).bind fun o => aft 144 162 165 L [] o := Rc (c := 126) (As := [.ref a0, .int a1, .int a2]) (S' := []) (pc' := 165) rfl
set_option maxRecDepth 100000 in
theorem e144_165 {L : Lo} {S : List Value} {h : Hp} {x0 x1 x2 x3 x4 x5 x6 x7 x8 x9 x10 : Option Value} {y : Option Value} {v : Int32} : Run 144 165 (x0 :: x1 :: x2 :: x3 :: x4 :: x5 :: x6 :: x7 :: x8 :: x9 :: x10 :: y :: L) (.int v :: S) h = Run 144 167 (x0 :: x1 :: x2 :: x3 :: x4 :: x5 :: x6 :: x7 :: x8 :: x9 :: ck x10 :: some (.int v) :: L) S h := Rg rfl
set_option maxRecDepth 100000 in
theorem e144_167 {L : Lo} {S : List Value} {h : Hp} {v : Nat} : Run 144 167 (some (.ref v) :: L) S h = Run 144 168 (some (.ref v) :: L) (.ref v :: S) h := Rg rfl
set_option maxRecDepth 100000 in
theorem e144_168 {L : Lo} {S : List Value} {h : Hp} {x0 x1 x2 x3 x4 x5 : Option Value} {v : Int32} : Run 144 168 (x0 :: x1 :: x2 :: x3 :: x4 :: x5 :: some (.int v) :: L) S h = Run 144 170 (x0 :: x1 :: x2 :: x3 :: x4 :: x5 :: some (.int v) :: L) (.int v :: S) h := Rg rfl
set_option maxRecDepth 100000 in
theorem e144_170 {L : Lo} {S : List Value} {h : Hp} : Run 144 170 L S h = Run 144 172 L (.int 13 :: S) h := Rg rfl
set_option maxRecDepth 100000 in
theorem e144_172 {L : Lo} {h : Hp} {a2 : Int32} {a1 : Int32} {a0 : Nat} : Run 144 172 L [.int a2, .int a1, .ref a0] h = (Run 126 0 [some (.ref a0), some (.int a1), some (.int a2), none] [] h).bind fun o => aft 144 172 175 L [] o := Rc (c := 126) (As := [.ref a0, .int a1, .int a2]) (S' := []) (pc' := 175) rfl
set_option maxRecDepth 100000 in
theorem e144_175 {L : Lo} {S : List Value} {h : Hp} {x0 x1 x2 x3 x4 x5 x6 x7 x8 x9 x10 x11 : Option Value} {y : Option Value} {v : Int32} : Run 144 175 (x0 :: x1 :: x2 :: x3 :: x4 :: x5 :: x6 :: x7 :: x8 :: x9 :: x10 :: x11 :: y :: L) (.int v :: S) h = Run 144 177 (x0 :: x1 :: x2 :: x3 :: x4 :: x5 :: x6 :: x7 :: x8 :: x9 :: x10 :: ck x11 :: some (.int v) :: L) S h := Rg rfl
set_option maxRecDepth 100000 in
theorem e144_177 {L : Lo} {S : List Value} {h : Hp} {x0 x1 x2 x3 x4 : Option Value} {v : Int32} : Run 144 177 (x0 :: x1 :: x2 :: x3 :: x4 :: some (.int v) :: L) S h = Run 144 179 (x0 :: x1 :: x2 :: x3 :: x4 :: some (.int v) :: L) (.int v :: S) h := Rg rfl
set_option maxRecDepth 100000 in
theorem e144_179 {L : Lo} {S : List Value} {h : Hp} {x0 x1 x2 x3 x4 x5 x6 : Option Value} {v : Int32} : Run 144 179 (x0 :: x1 :: x2 :: x3 :: x4 :: x5 :: x6 :: some (.int v) :: L) S h = Run 144 181 (x0 :: x1 :: x2 :: x3 :: x4 :: x5 :: x6 :: some (.int v) :: L) (.int v :: S) h := Rg rfl
set_option maxRecDepth 100000 in
theorem e144_181 {L : Lo} {S : List Value} {h : Hp} {x : Int32} : Run 144 181 L (.int x :: S) h = if x ≤ 0 then Run 144 188 L S h else Run 144 184 L S h := Rbr (c := cnd .le x 0 = true) (off := 7) rfl rfl cnd_le
set_option maxRecDepth 100000 in
theorem e144_184 {L : Lo} {S : List Value} {h : Hp} : Run 144 184 L S h = Run 144 185 L (.int 1 :: S) h := Rg rfl
set_option maxRecDepth 100000 in
theorem e144_185 {L : Lo} {S : List Value} {h : Hp} : Run 144 185 L S h = Run 144 189 L S h := Rg rfl
set_option maxRecDepth 100000 in
theorem e144_188 {L : Lo} {S : List Value} {h : Hp} : Run 144 188 L S h = Run 144 189 L (.int 0 :: S) h := Rg rfl
set_option maxRecDepth 100000 in
theorem e144_189 {L : Lo} {S : List Value} {h : Hp} {x z : Int32} : Run 144 189 L (.int z :: .int x :: S) h = Run 144 190 L (.int (x + z) :: S) h := Rg rfl
set_option maxRecDepth 100000 in
theorem e144_190 {L : Lo} {S : List Value} {h : Hp} {x0 x1 x2 x3 x4 : Option Value} {y : Option Value} {v : Int32} : Run 144 190 (x0 :: x1 :: x2 :: x3 :: x4 :: y :: L) (.int v :: S) h = Run 144 192 (x0 :: x1 :: x2 :: x3 :: ck x4 :: some (.int v) :: L) S h := Rg rfl
set_option maxRecDepth 100000 in
theorem e144_192 {L : Lo} {S : List Value} {h : Hp} {x0 x1 x2 x3 x4 x5 x6 : Option Value} {v : Int32} : Run 144 192 (x0 :: x1 :: x2 :: x3 :: x4 :: x5 :: x6 :: some (.int v) :: L) S h = Run 144 194 (x0 :: x1 :: x2 :: x3 :: x4 :: x5 :: x6 :: some (.int v) :: L) (.int v :: S) h := Rg rfl
set_option maxRecDepth 100000 in
theorem e144_194 {L : Lo} {S : List Value} {h : Hp} {x : Int32} : Run 144 194 L (.int x :: S) h = if x < 0 then Run 144 406 L S h else Run 144 197 L S h := Rbr (c := cnd .lt x 0 = true) (off := 212) rfl rfl cnd_lt
set_option maxRecDepth 100000 in
theorem e144_197 {L : Lo} {S : List Value} {h : Hp} {x0 x1 x2 x3 x4 x5 x6 : Option Value} {v : Int32} : Run 144 197 (x0 :: x1 :: x2 :: x3 :: x4 :: x5 :: x6 :: some (.int v) :: L) S h = Run 144 199 (x0 :: x1 :: x2 :: x3 :: x4 :: x5 :: x6 :: some (.int v) :: L) (.int v :: S) h := Rg rfl
set_option maxRecDepth 100000 in
theorem e144_199 {L : Lo} {S : List Value} {h : Hp} : Run 144 199 L S h = Run 144 201 L (.int 60 :: S) h := Rg rfl
set_option maxRecDepth 100000 in
theorem e144_201 {L : Lo} {S : List Value} {h : Hp} {x z : Int32} : Run 144 201 L (.int z :: .int x :: S) h = if z < x then Run 144 406 L S h else Run 144 204 L S h := Rbr (c := cnd .gt x z = true) (off := 205) rfl rfl cnd_gt
set_option maxRecDepth 100000 in
theorem e144_204 {L : Lo} {S : List Value} {h : Hp} {x0 x1 x2 x3 x4 x5 x6 : Option Value} {v : Int32} : Run 144 204 (x0 :: x1 :: x2 :: x3 :: x4 :: x5 :: x6 :: some (.int v) :: L) S h = Run 144 206 (x0 :: x1 :: x2 :: x3 :: x4 :: x5 :: x6 :: some (.int v) :: L) (.int v :: S) h := Rg rfl
set_option maxRecDepth 100000 in
theorem e144_206 {L : Lo} {S : List Value} {h : Hp} {x : Int32} : Run 144 206 L (.int x :: S) h = if x = 0 then Run 144 209 L S h else Run 144 213 L S h := RbrN (c := cnd .ne x 0 = true) (off := 7) rfl rfl cnd_ne
set_option maxRecDepth 100000 in
theorem e144_209 {L : Lo} {S : List Value} {h : Hp} : Run 144 209 L S h = Run 144 210 L (.int 1 :: S) h := Rg rfl
set_option maxRecDepth 100000 in
theorem e144_210 {L : Lo} {S : List Value} {h : Hp} : Run 144 210 L S h = Run 144 214 L S h := Rg rfl
set_option maxRecDepth 100000 in
theorem e144_213 {L : Lo} {S : List Value} {h : Hp} : Run 144 213 L S h = Run 144 214 L (.int 0 :: S) h := Rg rfl
set_option maxRecDepth 100000 in
theorem e144_214 {L : Lo} {S : List Value} {h : Hp} {x0 x1 x2 x3 x4 x5 x6 x7 : Option Value} {v : Int32} : Run 144 214 (x0 :: x1 :: x2 :: x3 :: x4 :: x5 :: x6 :: x7 :: some (.int v) :: L) S h = Run 144 216 (x0 :: x1 :: x2 :: x3 :: x4 :: x5 :: x6 :: x7 :: some (.int v) :: L) (.int v :: S) h := Rg rfl
set_option maxRecDepth 100000 in
theorem e144_216 {L : Lo} {S : List Value} {h : Hp} : Run 144 216 L S h = Run 144 217 L (.int (-1) :: S) h := Rg rfl
set_option maxRecDepth 100000 in
theorem e144_217 {L : Lo} {S : List Value} {h : Hp} {x z : Int32} : Run 144 217 L (.int z :: .int x :: S) h = if x = z then Run 144 220 L S h else Run 144 224 L S h := RbrN (c := cnd .ne x z = true) (off := 7) rfl rfl cnd_ne
set_option maxRecDepth 100000 in
theorem e144_220 {L : Lo} {S : List Value} {h : Hp} : Run 144 220 L S h = Run 144 221 L (.int 1 :: S) h := Rg rfl
set_option maxRecDepth 100000 in
theorem e144_221 {L : Lo} {S : List Value} {h : Hp} : Run 144 221 L S h = Run 144 225 L S h := Rg rfl
set_option maxRecDepth 100000 in
theorem e144_224 {L : Lo} {S : List Value} {h : Hp} : Run 144 224 L S h = Run 144 225 L (.int 0 :: S) h := Rg rfl
set_option maxRecDepth 100000 in
theorem e144_225 {L : Lo} {S : List Value} {h : Hp} {x z : Int32} : Run 144 225 L (.int z :: .int x :: S) h = if x = z then Run 144 228 L S h else Run 144 406 L S h := RbrN (c := cnd .ne x z = true) (off := 181) rfl rfl cnd_ne
set_option maxRecDepth 100000 in
theorem e144_228 {L : Lo} {S : List Value} {h : Hp} {x0 x1 x2 x3 x4 x5 x6 : Option Value} {v : Int32} : Run 144 228 (x0 :: x1 :: x2 :: x3 :: x4 :: x5 :: x6 :: some (.int v) :: L) S h = Run 144 230 (x0 :: x1 :: x2 :: x3 :: x4 :: x5 :: x6 :: some (.int v) :: L) (.int v :: S) h := Rg rfl
set_option maxRecDepth 100000 in
theorem e144_230 {L : Lo} {S : List Value} {h : Hp} {x : Int32} : Run 144 230 L (.int x :: S) h = if x ≤ 0 then Run 144 244 L S h else Run 144 233 L S h := Rbr (c := cnd .le x 0 = true) (off := 14) rfl rfl cnd_le
set_option maxRecDepth 100000 in
theorem e144_233 {L : Lo} {S : List Value} {h : Hp} {v : Nat} : Run 144 233 (some (.ref v) :: L) S h = Run 144 234 (some (.ref v) :: L) (.ref v :: S) h := Rg rfl
set_option maxRecDepth 100000 in
theorem e144_234 {L : Lo} {S : List Value} {h : Hp} {x0 x1 x2 x3 x4 x5 x6 x7 : Option Value} {v : Int32} : Run 144 234 (x0 :: x1 :: x2 :: x3 :: x4 :: x5 :: x6 :: x7 :: some (.int v) :: L) S h = Run 144 236 (x0 :: x1 :: x2 :: x3 :: x4 :: x5 :: x6 :: x7 :: some (.int v) :: L) (.int v :: S) h := Rg rfl
set_option maxRecDepth 100000 in
theorem e144_236 {L : Lo} {h : Hp} {a1 : Int32} {a0 : Nat} : Run 144 236 L [.int a1, .ref a0] h = (Run 127 0 [some (.ref a0), some (.int a1), none] [] h).bind fun o => aft 144 236 239 L [] o := Rc (c := 127) (As := [.ref a0, .int a1]) (S' := []) (pc' := 239) rfl
set_option maxRecDepth 100000 in
theorem e144_239 {L : Lo} {S : List Value} {h : Hp} {x0 x1 x2 x3 x4 x5 : Option Value} {v : Int32} : Run 144 239 (x0 :: x1 :: x2 :: x3 :: x4 :: x5 :: some (.int v) :: L) S h = Run 144 241 (x0 :: x1 :: x2 :: x3 :: x4 :: x5 :: some (.int v) :: L) (.int v :: S) h := Rg rfl
set_option maxRecDepth 100000 in
theorem e144_241 {L : Lo} {S : List Value} {h : Hp} {x z : Int32} : Run 144 241 L (.int z :: .int x :: S) h = if x = z then Run 144 244 L S h else Run 144 406 L S h := RbrN (c := cnd .ne x z = true) (off := 165) rfl rfl cnd_ne
set_option maxRecDepth 100000 in
theorem e144_244 {L : Lo} {S : List Value} {h : Hp} {v : Nat} : Run 144 244 (some (.ref v) :: L) S h = Run 144 245 (some (.ref v) :: L) (.ref v :: S) h := Rg rfl
set_option maxRecDepth 100000 in
theorem e144_245 {L : Lo} {S : List Value} {h : Hp} {x0 x1 x2 x3 x4 x5 : Option Value} {v : Int32} : Run 144 245 (x0 :: x1 :: x2 :: x3 :: x4 :: x5 :: some (.int v) :: L) S h = Run 144 247 (x0 :: x1 :: x2 :: x3 :: x4 :: x5 :: some (.int v) :: L) (.int v :: S) h := Rg rfl
set_option maxRecDepth 100000 in
theorem e144_247 {L : Lo} {S : List Value} {h : Hp} : Run 144 247 L S h = Run 144 249 L (.int 7 :: S) h := Rg rfl
set_option maxRecDepth 100000 in
theorem e144_249 {L : Lo} {h : Hp} {a2 : Int32} {a1 : Int32} {a0 : Nat} : Run 144 249 L [.int a2, .int a1, .ref a0] h = (Run 126 0 [some (.ref a0), some (.int a1), some (.int a2), none] [] h).bind fun o => aft 144 249 252 L [] o := Rc (c := 126) (As := [.ref a0, .int a1, .int a2]) (S' := []) (pc' := 252) rfl
set_option maxRecDepth 100000 in
theorem e144_252 {L : Lo} {S : List Value} {h : Hp} : Run 144 252 L S h = Run 144 253 L (.int 1 :: S) h := Rg rfl
set_option maxRecDepth 100000 in
theorem e144_253 {L : Lo} {S : List Value} {h : Hp} {x z : Int32} : Run 144 253 L (.int z :: .int x :: S) h = if x < z then Run 144 406 L S h else Run 144 256 L S h := Rbr (c := cnd .lt x z = true) (off := 153) rfl rfl cnd_lt
set_option maxRecDepth 100000 in
theorem e144_256 {L : Lo} {S : List Value} {h : Hp} {x0 x1 x2 x3 x4 x5 x6 x7 x8 x9 : Option Value} {v : Int32} : Run 144 256 (x0 :: x1 :: x2 :: x3 :: x4 :: x5 :: x6 :: x7 :: x8 :: x9 :: some (.int v) :: L) S h = Run 144 258 (x0 :: x1 :: x2 :: x3 :: x4 :: x5 :: x6 :: x7 :: x8 :: x9 :: some (.int v) :: L) (.int v :: S) h := Rg rfl
set_option maxRecDepth 100000 in
theorem e144_258 {L : Lo} {S : List Value} {h : Hp} {x : Int32} : Run 144 258 L (.int x :: S) h = if x < 0 then Run 144 406 L S h else Run 144 261 L S h := Rbr (c := cnd .lt x 0 = true) (off := 148) rfl rfl cnd_lt
set_option maxRecDepth 100000 in
theorem e144_261 {L : Lo} {S : List Value} {h : Hp} {x0 x1 x2 x3 x4 x5 x6 x7 x8 x9 : Option Value} {v : Int32} : Run 144 261 (x0 :: x1 :: x2 :: x3 :: x4 :: x5 :: x6 :: x7 :: x8 :: x9 :: some (.int v) :: L) S h = Run 144 263 (x0 :: x1 :: x2 :: x3 :: x4 :: x5 :: x6 :: x7 :: x8 :: x9 :: some (.int v) :: L) (.int v :: S) h := Rg rfl
set_option maxRecDepth 100000 in
theorem e144_263 {L : Lo} {S : List Value} {h : Hp} : Run 144 263 L S h = Run 144 265 L (.int 20 :: S) h := Rg rfl
set_option maxRecDepth 100000 in
theorem e144_265 {L : Lo} {S : List Value} {h : Hp} {x z : Int32} : Run 144 265 L (.int z :: .int x :: S) h = if z < x then Run 144 406 L S h else Run 144 268 L S h := Rbr (c := cnd .gt x z = true) (off := 141) rfl rfl cnd_gt
set_option maxRecDepth 100000 in
theorem e144_268 {L : Lo} {S : List Value} {h : Hp} {v : Nat} : Run 144 268 (some (.ref v) :: L) S h = Run 144 269 (some (.ref v) :: L) (.ref v :: S) h := Rg rfl
set_option maxRecDepth 100000 in
theorem e144_269 {L : Lo} {S : List Value} {h : Hp} {x0 x1 x2 x3 x4 x5 : Option Value} {v : Int32} : Run 144 269 (x0 :: x1 :: x2 :: x3 :: x4 :: x5 :: some (.int v) :: L) S h = Run 144 271 (x0 :: x1 :: x2 :: x3 :: x4 :: x5 :: some (.int v) :: L) (.int v :: S) h := Rg rfl
set_option maxRecDepth 100000 in
theorem e144_271 {L : Lo} {S : List Value} {h : Hp} : Run 144 271 L S h = Run 144 272 L (.int 5 :: S) h := Rg rfl
set_option maxRecDepth 100000 in
theorem e144_272 {L : Lo} {h : Hp} {a2 : Int32} {a1 : Int32} {a0 : Nat} : Run 144 272 L [.int a2, .int a1, .ref a0] h = (Run 126 0 [some (.ref a0), some (.int a1), some (.int a2), none] [] h).bind fun o => aft 144 272 275 L [] o := Rc (c := 126) (As := [.ref a0, .int a1, .int a2]) (S' := []) (pc' := 275) rfl
set_option maxRecDepth 100000 in
theorem e144_275 {L : Lo} {S : List Value} {h : Hp} {x : Int32} : Run 144 275 L (.int x :: S) h = if x < 0 then Run 144 406 L S h else Run 144 278 L S h := Rbr (c := cnd .lt x 0 = true) (off := 131) rfl rfl cnd_lt
set_option maxRecDepth 100000 in
theorem e144_278 {L : Lo} {S : List Value} {h : Hp} {v : Nat} : Run 144 278 (some (.ref v) :: L) S h = Run 144 279 (some (.ref v) :: L) (.ref v :: S) h := Rg rfl
set_option maxRecDepth 100000 in
theorem e144_279 {L : Lo} {S : List Value} {h : Hp} {x0 x1 x2 x3 x4 x5 : Option Value} {v : Int32} : Run 144 279 (x0 :: x1 :: x2 :: x3 :: x4 :: x5 :: some (.int v) :: L) S h = Run 144 281 (x0 :: x1 :: x2 :: x3 :: x4 :: x5 :: some (.int v) :: L) (.int v :: S) h := Rg rfl
set_option maxRecDepth 100000 in
theorem e144_281 {L : Lo} {S : List Value} {h : Hp} : Run 144 281 L S h = Run 144 283 L (.int 6 :: S) h := Rg rfl
set_option maxRecDepth 100000 in
theorem e144_283 {L : Lo} {h : Hp} {a2 : Int32} {a1 : Int32} {a0 : Nat} : Run 144 283 L [.int a2, .int a1, .ref a0] h = (Run 126 0 [some (.ref a0), some (.int a1), some (.int a2), none] [] h).bind fun o => aft 144 283 286 L [] o := Rc (c := 126) (As := [.ref a0, .int a1, .int a2]) (S' := []) (pc' := 286) rfl
set_option maxRecDepth 100000 in
theorem e144_286 {L : Lo} {S : List Value} {h : Hp} {x : Int32} : Run 144 286 L (.int x :: S) h = if x < 0 then Run 144 406 L S h else Run 144 289 L S h := Rbr (c := cnd .lt x 0 = true) (off := 120) rfl rfl cnd_lt
set_option maxRecDepth 100000 in
theorem e144_289 {L : Lo} {S : List Value} {h : Hp} {v : Nat} : Run 144 289 (some (.ref v) :: L) S h = Run 144 290 (some (.ref v) :: L) (.ref v :: S) h := Rg rfl
set_option maxRecDepth 100000 in
theorem e144_290 {L : Lo} {S : List Value} {h : Hp} {x0 x1 x2 x3 x4 x5 : Option Value} {v : Int32} : Run 144 290 (x0 :: x1 :: x2 :: x3 :: x4 :: x5 :: some (.int v) :: L) S h = Run 144 292 (x0 :: x1 :: x2 :: x3 :: x4 :: x5 :: some (.int v) :: L) (.int v :: S) h := Rg rfl
set_option maxRecDepth 100000 in
theorem e144_292 {L : Lo} {S : List Value} {h : Hp} : Run 144 292 L S h = Run 144 294 L (.int 9 :: S) h := Rg rfl
set_option maxRecDepth 100000 in
theorem e144_294 {L : Lo} {h : Hp} {a2 : Int32} {a1 : Int32} {a0 : Nat} : Run 144 294 L [.int a2, .int a1, .ref a0] h = (Run 126 0 [some (.ref a0), some (.int a1), some (.int a2), none] [] h).bind fun o => aft 144 294 297 L [] o := Rc (c := 126) (As := [.ref a0, .int a1, .int a2]) (S' := []) (pc' := 297) rfl
set_option maxRecDepth 100000 in
theorem e144_297 {L : Lo} {S : List Value} {h : Hp} {x : Int32} : Run 144 297 L (.int x :: S) h = if x < 0 then Run 144 406 L S h else Run 144 300 L S h := Rbr (c := cnd .lt x 0 = true) (off := 109) rfl rfl cnd_lt
set_option maxRecDepth 100000 in
theorem e144_300 {L : Lo} {S : List Value} {h : Hp} {v : Nat} : Run 144 300 (some (.ref v) :: L) S h = Run 144 301 (some (.ref v) :: L) (.ref v :: S) h := Rg rfl
set_option maxRecDepth 100000 in
theorem e144_301 {L : Lo} {S : List Value} {h : Hp} {x0 x1 x2 x3 x4 x5 : Option Value} {v : Int32} : Run 144 301 (x0 :: x1 :: x2 :: x3 :: x4 :: x5 :: some (.int v) :: L) S h = Run 144 303 (x0 :: x1 :: x2 :: x3 :: x4 :: x5 :: some (.int v) :: L) (.int v :: S) h := Rg rfl
set_option maxRecDepth 100000 in
theorem e144_303 {L : Lo} {S : List Value} {h : Hp} : Run 144 303 L S h = Run 144 305 L (.int 9 :: S) h := Rg rfl
set_option maxRecDepth 100000 in
theorem e144_305 {L : Lo} {h : Hp} {a2 : Int32} {a1 : Int32} {a0 : Nat} : Run 144 305 L [.int a2, .int a1, .ref a0] h = (Run 126 0 [some (.ref a0), some (.int a1), some (.int a2), none] [] h).bind fun o => aft 144 305 308 L [] o := Rc (c := 126) (As := [.ref a0, .int a1, .int a2]) (S' := []) (pc' := 308) rfl
set_option maxRecDepth 100000 in
theorem e144_308 {L : Lo} {S : List Value} {h : Hp} : Run 144 308 L S h = Run 144 309 L (.int 2 :: S) h := Rg rfl
set_option maxRecDepth 100000 in
theorem e144_309 {L : Lo} {S : List Value} {h : Hp} {x z : Int32} : Run 144 309 L (.int z :: .int x :: S) h = if z < x then Run 144 406 L S h else Run 144 312 L S h := Rbr (c := cnd .gt x z = true) (off := 97) rfl rfl cnd_gt
set_option maxRecDepth 100000 in
theorem e144_312 {L : Lo} {S : List Value} {h : Hp} {v : Nat} : Run 144 312 (some (.ref v) :: L) S h = Run 144 313 (some (.ref v) :: L) (.ref v :: S) h := Rg rfl
set_option maxRecDepth 100000 in
theorem e144_313 {L : Lo} {S : List Value} {h : Hp} {x0 x1 x2 x3 x4 x5 : Option Value} {v : Int32} : Run 144 313 (x0 :: x1 :: x2 :: x3 :: x4 :: x5 :: some (.int v) :: L) S h = Run 144 315 (x0 :: x1 :: x2 :: x3 :: x4 :: x5 :: some (.int v) :: L) (.int v :: S) h := Rg rfl
set_option maxRecDepth 100000 in
theorem e144_315 {L : Lo} {S : List Value} {h : Hp} : Run 144 315 L S h = Run 144 317 L (.int 10 :: S) h := Rg rfl
set_option maxRecDepth 100000 in
theorem e144_317 {L : Lo} {h : Hp} {a2 : Int32} {a1 : Int32} {a0 : Nat} : Run 144 317 L [.int a2, .int a1, .ref a0] h = (Run 126 0 [some (.ref a0), some (.int a1), some (.int a2), none] [] h).bind fun o => aft 144 317 320 L [] o := Rc (c := 126) (As := [.ref a0, .int a1, .int a2]) (S' := []) (pc' := 320) rfl
set_option maxRecDepth 100000 in
theorem e144_320 {L : Lo} {S : List Value} {h : Hp} {x : Int32} : Run 144 320 L (.int x :: S) h = if x < 0 then Run 144 406 L S h else Run 144 323 L S h := Rbr (c := cnd .lt x 0 = true) (off := 86) rfl rfl cnd_lt
set_option maxRecDepth 100000 in
theorem e144_323 {L : Lo} {S : List Value} {h : Hp} {v : Nat} : Run 144 323 (some (.ref v) :: L) S h = Run 144 324 (some (.ref v) :: L) (.ref v :: S) h := Rg rfl
set_option maxRecDepth 100000 in
theorem e144_324 {L : Lo} {S : List Value} {h : Hp} {x0 x1 x2 x3 x4 x5 : Option Value} {v : Int32} : Run 144 324 (x0 :: x1 :: x2 :: x3 :: x4 :: x5 :: some (.int v) :: L) S h = Run 144 326 (x0 :: x1 :: x2 :: x3 :: x4 :: x5 :: some (.int v) :: L) (.int v :: S) h := Rg rfl
set_option maxRecDepth 100000 in
theorem e144_326 {L : Lo} {S : List Value} {h : Hp} : Run 144 326 L S h = Run 144 328 L (.int 10 :: S) h := Rg rfl
set_option maxRecDepth 100000 in
theorem e144_328 {L : Lo} {h : Hp} {a2 : Int32} {a1 : Int32} {a0 : Nat} : Run 144 328 L [.int a2, .int a1, .ref a0] h = (Run 126 0 [some (.ref a0), some (.int a1), some (.int a2), none] [] h).bind fun o => aft 144 328 331 L [] o := Rc (c := 126) (As := [.ref a0, .int a1, .int a2]) (S' := []) (pc' := 331) rfl
set_option maxRecDepth 100000 in
theorem e144_331 {L : Lo} {S : List Value} {h : Hp} : Run 144 331 L S h = Run 144 332 L (.int 2 :: S) h := Rg rfl
set_option maxRecDepth 100000 in
theorem e144_332 {L : Lo} {S : List Value} {h : Hp} {x z : Int32} : Run 144 332 L (.int z :: .int x :: S) h = if z < x then Run 144 406 L S h else Run 144 335 L S h := Rbr (c := cnd .gt x z = true) (off := 74) rfl rfl cnd_gt
set_option maxRecDepth 100000 in
theorem e144_335 {L : Lo} {S : List Value} {h : Hp} {x0 x1 x2 x3 x4 x5 x6 x7 x8 x9 x10 : Option Value} {v : Int32} : Run 144 335 (x0 :: x1 :: x2 :: x3 :: x4 :: x5 :: x6 :: x7 :: x8 :: x9 :: x10 :: some (.int v) :: L) S h = Run 144 337 (x0 :: x1 :: x2 :: x3 :: x4 :: x5 :: x6 :: x7 :: x8 :: x9 :: x10 :: some (.int v) :: L) (.int v :: S) h := Rg rfl
set_option maxRecDepth 100000 in
theorem e144_337 {L : Lo} {S : List Value} {h : Hp} {x : Int32} : Run 144 337 L (.int x :: S) h = if x < 0 then Run 144 406 L S h else Run 144 340 L S h := Rbr (c := cnd .lt x 0 = true) (off := 69) rfl rfl cnd_lt
set_option maxRecDepth 100000 in
theorem e144_340 {L : Lo} {S : List Value} {h : Hp} {x0 x1 x2 x3 x4 x5 x6 x7 x8 x9 x10 : Option Value} {v : Int32} : Run 144 340 (x0 :: x1 :: x2 :: x3 :: x4 :: x5 :: x6 :: x7 :: x8 :: x9 :: x10 :: some (.int v) :: L) S h = Run 144 342 (x0 :: x1 :: x2 :: x3 :: x4 :: x5 :: x6 :: x7 :: x8 :: x9 :: x10 :: some (.int v) :: L) (.int v :: S) h := Rg rfl
set_option maxRecDepth 100000 in
theorem e144_342 {L : Lo} {S : List Value} {h : Hp} : Run 144 342 L S h = Run 144 344 L (.int 9 :: S) h := Rg rfl
set_option maxRecDepth 100000 in
theorem e144_344 {L : Lo} {S : List Value} {h : Hp} {x z : Int32} : Run 144 344 L (.int z :: .int x :: S) h = if z < x then Run 144 406 L S h else Run 144 347 L S h := Rbr (c := cnd .gt x z = true) (off := 62) rfl rfl cnd_gt
set_option maxRecDepth 100000 in
theorem e144_347 {L : Lo} {S : List Value} {h : Hp} {v : Nat} : Run 144 347 (some (.ref v) :: L) S h = Run 144 348 (some (.ref v) :: L) (.ref v :: S) h := Rg rfl
set_option maxRecDepth 100000 in
theorem e144_348 {L : Lo} {S : List Value} {h : Hp} {x0 x1 x2 x3 x4 x5 : Option Value} {v : Int32} : Run 144 348 (x0 :: x1 :: x2 :: x3 :: x4 :: x5 :: some (.int v) :: L) S h = Run 144 350 (x0 :: x1 :: x2 :: x3 :: x4 :: x5 :: some (.int v) :: L) (.int v :: S) h := Rg rfl
set_option maxRecDepth 100000 in
theorem e144_350 {L : Lo} {S : List Value} {h : Hp} : Run 144 350 L S h = Run 144 352 L (.int 8 :: S) h := Rg rfl
set_option maxRecDepth 100000 in
theorem e144_352 {L : Lo} {h : Hp} {a2 : Int32} {a1 : Int32} {a0 : Nat} : Run 144 352 L [.int a2, .int a1, .ref a0] h = (Run 126 0 [some (.ref a0), some (.int a1), some (.int a2), none] [] h).bind fun o => aft 144 352 355 L [] o := Rc (c := 126) (As := [.ref a0, .int a1, .int a2]) (S' := []) (pc' := 355) rfl
set_option maxRecDepth 100000 in
theorem e144_355 {L : Lo} {S : List Value} {h : Hp} {x : Int32} : Run 144 355 L (.int x :: S) h = if x < 0 then Run 144 406 L S h else Run 144 358 L S h := Rbr (c := cnd .lt x 0 = true) (off := 51) rfl rfl cnd_lt
set_option maxRecDepth 100000 in
theorem e144_358 {L : Lo} {S : List Value} {h : Hp} {x0 x1 x2 x3 x4 x5 x6 x7 x8 x9 x10 x11 : Option Value} {v : Int32} : Run 144 358 (x0 :: x1 :: x2 :: x3 :: x4 :: x5 :: x6 :: x7 :: x8 :: x9 :: x10 :: x11 :: some (.int v) :: L) S h = Run 144 360 (x0 :: x1 :: x2 :: x3 :: x4 :: x5 :: x6 :: x7 :: x8 :: x9 :: x10 :: x11 :: some (.int v) :: L) (.int v :: S) h := Rg rfl
set_option maxRecDepth 100000 in
theorem e144_360 {L : Lo} {S : List Value} {h : Hp} {x : Int32} : Run 144 360 L (.int x :: S) h = if x < 0 then Run 144 406 L S h else Run 144 363 L S h := Rbr (c := cnd .lt x 0 = true) (off := 46) rfl rfl cnd_lt
set_option maxRecDepth 100000 in
theorem e144_363 {L : Lo} {S : List Value} {h : Hp} {x0 x1 x2 x3 x4 x5 x6 x7 x8 x9 x10 x11 : Option Value} {v : Int32} : Run 144 363 (x0 :: x1 :: x2 :: x3 :: x4 :: x5 :: x6 :: x7 :: x8 :: x9 :: x10 :: x11 :: some (.int v) :: L) S h = Run 144 365 (x0 :: x1 :: x2 :: x3 :: x4 :: x5 :: x6 :: x7 :: x8 :: x9 :: x10 :: x11 :: some (.int v) :: L) (.int v :: S) h := Rg rfl
set_option maxRecDepth 100000 in
theorem e144_365 {L : Lo} {S : List Value} {h : Hp} : Run 144 365 L S h = Run 144 366 L (.int 3 :: S) h := Rg rfl
set_option maxRecDepth 100000 in
theorem e144_366 {L : Lo} {S : List Value} {h : Hp} {x z : Int32} : Run 144 366 L (.int z :: .int x :: S) h = if z < x then Run 144 406 L S h else Run 144 369 L S h := Rbr (c := cnd .gt x z = true) (off := 40) rfl rfl cnd_gt
set_option maxRecDepth 100000 in
theorem e144_369 {L : Lo} {S : List Value} {h : Hp} {x0 x1 x2 x3 x4 x5 x6 x7 x8 x9 x10 : Option Value} {v : Int32} : Run 144 369 (x0 :: x1 :: x2 :: x3 :: x4 :: x5 :: x6 :: x7 :: x8 :: x9 :: x10 :: some (.int v) :: L) S h = Run 144 371 (x0 :: x1 :: x2 :: x3 :: x4 :: x5 :: x6 :: x7 :: x8 :: x9 :: x10 :: some (.int v) :: L) (.int v :: S) h := Rg rfl
set_option maxRecDepth 100000 in
theorem e144_371 {L : Lo} {S : List Value} {h : Hp} {x : Int32} : Run 144 371 L (.int x :: S) h = if x = 0 then Run 144 374 L S h else Run 144 378 L S h := RbrN (c := cnd .ne x 0 = true) (off := 7) rfl rfl cnd_ne
set_option maxRecDepth 100000 in
theorem e144_374 {L : Lo} {S : List Value} {h : Hp} : Run 144 374 L S h = Run 144 375 L (.int 1 :: S) h := Rg rfl
set_option maxRecDepth 100000 in
theorem e144_375 {L : Lo} {S : List Value} {h : Hp} : Run 144 375 L S h = Run 144 379 L S h := Rg rfl
set_option maxRecDepth 100000 in
theorem e144_378 {L : Lo} {S : List Value} {h : Hp} : Run 144 378 L S h = Run 144 379 L (.int 0 :: S) h := Rg rfl
set_option maxRecDepth 100000 in
theorem e144_379 {L : Lo} {S : List Value} {h : Hp} {x0 x1 x2 x3 x4 x5 x6 x7 x8 x9 x10 x11 : Option Value} {v : Int32} : Run 144 379 (x0 :: x1 :: x2 :: x3 :: x4 :: x5 :: x6 :: x7 :: x8 :: x9 :: x10 :: x11 :: some (.int v) :: L) S h = Run 144 381 (x0 :: x1 :: x2 :: x3 :: x4 :: x5 :: x6 :: x7 :: x8 :: x9 :: x10 :: x11 :: some (.int v) :: L) (.int v :: S) h := Rg rfl
set_option maxRecDepth 100000 in
theorem e144_381 {L : Lo} {S : List Value} {h : Hp} : Run 144 381 L S h = Run 144 382 L (.int 3 :: S) h := Rg rfl
set_option maxRecDepth 100000 in
theorem e144_382 {L : Lo} {S : List Value} {h : Hp} {x z : Int32} : Run 144 382 L (.int z :: .int x :: S) h = if x = z then Run 144 398 L S h else Run 144 385 L S h := Rbr (c := cnd .eq x z = true) (off := 16) rfl rfl cnd_eq
set_option maxRecDepth 100000 in
theorem e144_385 {L : Lo} {S : List Value} {h : Hp} {x0 x1 x2 x3 x4 x5 x6 x7 x8 x9 : Option Value} {v : Int32} : Run 144 385 (x0 :: x1 :: x2 :: x3 :: x4 :: x5 :: x6 :: x7 :: x8 :: x9 :: some (.int v) :: L) S h = Run 144 387 (x0 :: x1 :: x2 :: x3 :: x4 :: x5 :: x6 :: x7 :: x8 :: x9 :: some (.int v) :: L) (.int v :: S) h := Rg rfl
set_option maxRecDepth 100000 in
theorem e144_387 {L : Lo} {S : List Value} {h : Hp} {x : Int32} : Run 144 387 L (.int x :: S) h = if x = 0 then Run 144 398 L S h else Run 144 390 L S h := Rbr (c := cnd .eq x 0 = true) (off := 11) rfl rfl cnd_eq
set_option maxRecDepth 100000 in
theorem e144_390 {L : Lo} {S : List Value} {h : Hp} {v : Nat} : Run 144 390 (some (.ref v) :: L) S h = Run 144 391 (some (.ref v) :: L) (.ref v :: S) h := Rg rfl
set_option maxRecDepth 100000 in
theorem e144_391 {L : Lo} {S : List Value} {h : Hp} : Run 144 391 L S h = Run 144 392 L (.int 3 :: S) h := Rg rfl
set_option maxRecDepth 100000 in
theorem e144_392 {L : Lo} {h : Hp} {a2 : Int32} {a1 : Nat} {a0 : Int32} : Run 144 392 L [.int a2, .ref a1, .int a0] h = (Run 125 0 [some (.ref a1), some (.int a2), none] [] h).bind fun o => aft 144 392 395 L [.int a0] o := Rc (c := 125) (As := [.ref a1, .int a2]) (S' := [.int a0]) (pc' := 395) rfl
set_option maxRecDepth 100000 in
theorem e144_395 {L : Lo} {S : List Value} {h : Hp} {x : Int32} : Run 144 395 L (.int x :: S) h = if x = 0 then Run 144 398 L S h else Run 144 402 L S h := RbrN (c := cnd .ne x 0 = true) (off := 7) rfl rfl cnd_ne
set_option maxRecDepth 100000 in
theorem e144_398 {L : Lo} {S : List Value} {h : Hp} : Run 144 398 L S h = Run 144 399 L (.int 1 :: S) h := Rg rfl
set_option maxRecDepth 100000 in
theorem e144_399 {L : Lo} {S : List Value} {h : Hp} : Run 144 399 L S h = Run 144 403 L S h := Rg rfl
set_option maxRecDepth 100000 in
theorem e144_402 {L : Lo} {S : List Value} {h : Hp} : Run 144 402 L S h = Run 144 403 L (.int 0 :: S) h := Rg rfl
set_option maxRecDepth 100000 in
theorem e144_403 {L : Lo} {S : List Value} {h : Hp} {x z : Int32} : Run 144 403 L (.int z :: .int x :: S) h = if x = z then Run 144 408 L S h else Run 144 406 L S h := Rbr (c := cnd .eq x z = true) (off := 5) rfl rfl cnd_eq
set_option maxRecDepth 100000 in
theorem e144_406 {L : Lo} {S : List Value} {h : Hp} : Run 144 406 L S h = Run 144 407 L (.int 0 :: S) h := Rg rfl
set_option maxRecDepth 100000 in
theorem e144_407 {L : Lo} {h : Hp} {x : Int32} (hx : narrow .boolean (.int x) = .int x) : Run 144 407 L [.int x] h = some (.inl (some (.int x)), h) := Rd (if_pos hx)
set_option maxRecDepth 100000 in
theorem e144_408 {L : Lo} {S : List Value} {h : Hp} {x0 x1 x2 x3 x4 x5 x6 x7 x8 : Option Value} {v : Int32} : Run 144 408 (x0 :: x1 :: x2 :: x3 :: x4 :: x5 :: x6 :: x7 :: x8 :: some (.int v) :: L) S h = Run 144 410 (x0 :: x1 :: x2 :: x3 :: x4 :: x5 :: x6 :: x7 :: x8 :: some (.int v) :: L) (.int v :: S) h := Rg rfl
set_option maxRecDepth 100000 in
theorem e144_410 {L : Lo} {S : List Value} {h : Hp} : Run 144 410 L S h = Run 144 411 L (.int (-1) :: S) h := Rg rfl
set_option maxRecDepth 100000 in
theorem e144_411 {L : Lo} {S : List Value} {h : Hp} {x z : Int32} : Run 144 411 L (.int z :: .int x :: S) h = if x = z then Run 144 478 L S h else Run 144 414 L S h := Rbr (c := cnd .eq x z = true) (off := 67) rfl rfl cnd_eq
set_option maxRecDepth 100000 in
theorem e144_414 {L : Lo} {S : List Value} {h : Hp} {v : Nat} : Run 144 414 (some (.ref v) :: L) S h = Run 144 415 (some (.ref v) :: L) (.ref v :: S) h := Rg rfl
set_option maxRecDepth 100000 in
theorem e144_415 {L : Lo} {S : List Value} {h : Hp} {x0 x1 x2 x3 x4 x5 x6 x7 x8 : Option Value} {v : Int32} : Run 144 415 (x0 :: x1 :: x2 :: x3 :: x4 :: x5 :: x6 :: x7 :: x8 :: some (.int v) :: L) S h = Run 144 417 (x0 :: x1 :: x2 :: x3 :: x4 :: x5 :: x6 :: x7 :: x8 :: some (.int v) :: L) (.int v :: S) h := Rg rfl
set_option maxRecDepth 100000 in
theorem e144_417 {L : Lo} {S : List Value} {h : Hp} : Run 144 417 L S h = Run 144 419 L (.int 11 :: S) h := Rg rfl
set_option maxRecDepth 100000 in
theorem e144_419 {L : Lo} {h : Hp} {a2 : Int32} {a1 : Int32} {a0 : Nat} : Run 144 419 L [.int a2, .int a1, .ref a0] h = (Run 126 0 [some (.ref a0), some (.int a1), some (.int a2), none] [] h).bind fun o => aft 144 419 422 L [] o := Rc (c := 126) (As := [.ref a0, .int a1, .int a2]) (S' := []) (pc' := 422) rfl
set_option maxRecDepth 100000 in
theorem e144_422 {L : Lo} {S : List Value} {h : Hp} {x0 x1 x2 x3 x4 x5 : Option Value} {v : Int32} : Run 144 422 (x0 :: x1 :: x2 :: x3 :: x4 :: x5 :: some (.int v) :: L) S h = Run 144 424 (x0 :: x1 :: x2 :: x3 :: x4 :: x5 :: some (.int v) :: L) (.int v :: S) h := Rg rfl
set_option maxRecDepth 100000 in
theorem e144_424 {L : Lo} {S : List Value} {h : Hp} {x z : Int32} : Run 144 424 L (.int z :: .int x :: S) h = if x = z then Run 144 427 L S h else Run 144 476 L S h := RbrN (c := cnd .ne x z = true) (off := 52) rfl rfl cnd_ne
set_option maxRecDepth 100000 in
theorem e144_427 {L : Lo} {S : List Value} {h : Hp} {x0 x1 x2 x3 x4 x5 x6 : Option Value} {v : Int32} : Run 144 427 (x0 :: x1 :: x2 :: x3 :: x4 :: x5 :: x6 :: some (.int v) :: L) S h = Run 144 429 (x0 :: x1 :: x2 :: x3 :: x4 :: x5 :: x6 :: some (.int v) :: L) (.int v :: S) h := Rg rfl
set_option maxRecDepth 100000 in
theorem e144_429 {L : Lo} {S : List Value} {h : Hp} {x : Int32} : Run 144 429 L (.int x :: S) h = if x = 0 then Run 144 476 L S h else Run 144 432 L S h := Rbr (c := cnd .eq x 0 = true) (off := 47) rfl rfl cnd_eq
set_option maxRecDepth 100000 in
theorem e144_432 {L : Lo} {S : List Value} {h : Hp} {v : Nat} : Run 144 432 (some (.ref v) :: L) S h = Run 144 433 (some (.ref v) :: L) (.ref v :: S) h := Rg rfl
set_option maxRecDepth 100000 in
theorem e144_433 {L : Lo} {S : List Value} {h : Hp} {x0 x1 x2 x3 x4 x5 x6 x7 x8 : Option Value} {v : Int32} : Run 144 433 (x0 :: x1 :: x2 :: x3 :: x4 :: x5 :: x6 :: x7 :: x8 :: some (.int v) :: L) S h = Run 144 435 (x0 :: x1 :: x2 :: x3 :: x4 :: x5 :: x6 :: x7 :: x8 :: some (.int v) :: L) (.int v :: S) h := Rg rfl
set_option maxRecDepth 100000 in
theorem e144_435 {L : Lo} {S : List Value} {h : Hp} : Run 144 435 L S h = Run 144 436 L (.int 3 :: S) h := Rg rfl
set_option maxRecDepth 100000 in
theorem e144_436 {L : Lo} {h : Hp} {a2 : Int32} {a1 : Int32} {a0 : Nat} : Run 144 436 L [.int a2, .int a1, .ref a0] h = (Run 126 0 [some (.ref a0), some (.int a1), some (.int a2), none] [] h).bind fun o => aft 144 436 439 L [] o := Rc (c := 126) (As := [.ref a0, .int a1, .int a2]) (S' := []) (pc' := 439) rfl
set_option maxRecDepth 100000 in
theorem e144_439 {L : Lo} {S : List Value} {h : Hp} {x : Int32} : Run 144 439 L (.int x :: S) h = if x = 0 then Run 144 476 L S h else Run 144 442 L S h := Rbr (c := cnd .eq x 0 = true) (off := 37) rfl rfl cnd_eq
set_option maxRecDepth 100000 in
theorem e144_442 {L : Lo} {S : List Value} {h : Hp} {v : Nat} : Run 144 442 (some (.ref v) :: L) S h = Run 144 443 (some (.ref v) :: L) (.ref v :: S) h := Rg rfl
set_option maxRecDepth 100000 in
theorem e144_443 {L : Lo} {S : List Value} {h : Hp} {x0 x1 x2 x3 x4 x5 x6 x7 x8 : Option Value} {v : Int32} : Run 144 443 (x0 :: x1 :: x2 :: x3 :: x4 :: x5 :: x6 :: x7 :: x8 :: some (.int v) :: L) S h = Run 144 445 (x0 :: x1 :: x2 :: x3 :: x4 :: x5 :: x6 :: x7 :: x8 :: some (.int v) :: L) (.int v :: S) h := Rg rfl
set_option maxRecDepth 100000 in
theorem e144_445 {L : Lo} {S : List Value} {h : Hp} : Run 144 445 L S h = Run 144 446 L (.int 0 :: S) h := Rg rfl
set_option maxRecDepth 100000 in
theorem e144_446 {L : Lo} {h : Hp} {a2 : Int32} {a1 : Int32} {a0 : Nat} : Run 144 446 L [.int a2, .int a1, .ref a0] h = (Run 126 0 [some (.ref a0), some (.int a1), some (.int a2), none] [] h).bind fun o => aft 144 446 449 L [] o := Rc (c := 126) (As := [.ref a0, .int a1, .int a2]) (S' := []) (pc' := 449) rfl
set_option maxRecDepth 100000 in
theorem e144_449 {L : Lo} {S : List Value} {h : Hp} {v : Nat} : Run 144 449 (some (.ref v) :: L) S h = Run 144 450 (some (.ref v) :: L) (.ref v :: S) h := Rg rfl
set_option maxRecDepth 100000 in
theorem e144_450 {L : Lo} {S : List Value} {h : Hp} {x0 x1 x2 x3 x4 x5 : Option Value} {v : Int32} : Run 144 450 (x0 :: x1 :: x2 :: x3 :: x4 :: x5 :: some (.int v) :: L) S h = Run 144 452 (x0 :: x1 :: x2 :: x3 :: x4 :: x5 :: some (.int v) :: L) (.int v :: S) h := Rg rfl
set_option maxRecDepth 100000 in
theorem e144_452 {L : Lo} {S : List Value} {h : Hp} : Run 144 452 L S h = Run 144 453 L (.int 0 :: S) h := Rg rfl
set_option maxRecDepth 100000 in
theorem e144_453 {L : Lo} {h : Hp} {a3 : Int32} {a2 : Int32} {a1 : Nat} {a0 : Int32} : Run 144 453 L [.int a3, .int a2, .ref a1, .int a0] h = (Run 126 0 [some (.ref a1), some (.int a2), some (.int a3), none] [] h).bind fun o => aft 144 453 456 L [.int a0] o := Rc (c := 126) (As := [.ref a1, .int a2, .int a3]) (S' := [.int a0]) (pc' := 456) rfl
set_option maxRecDepth 100000 in
theorem e144_456 {L : Lo} {S : List Value} {h : Hp} {x z : Int32} : Run 144 456 L (.int z :: .int x :: S) h = if x = z then Run 144 476 L S h else Run 144 459 L S h := Rbr (c := cnd .eq x z = true) (off := 20) rfl rfl cnd_eq
set_option maxRecDepth 100000 in
theorem e144_459 {L : Lo} {S : List Value} {h : Hp} {v : Nat} : Run 144 459 (some (.ref v) :: L) S h = Run 144 460 (some (.ref v) :: L) (.ref v :: S) h := Rg rfl
set_option maxRecDepth 100000 in
theorem e144_460 {L : Lo} {S : List Value} {h : Hp} {x0 x1 x2 x3 x4 x5 x6 x7 : Option Value} {v : Int32} : Run 144 460 (x0 :: x1 :: x2 :: x3 :: x4 :: x5 :: x6 :: x7 :: some (.int v) :: L) S h = Run 144 462 (x0 :: x1 :: x2 :: x3 :: x4 :: x5 :: x6 :: x7 :: some (.int v) :: L) (.int v :: S) h := Rg rfl
set_option maxRecDepth 100000 in
theorem e144_462 {L : Lo} {S : List Value} {h : Hp} {v : Nat} : Run 144 462 (some (.ref v) :: L) S h = Run 144 463 (some (.ref v) :: L) (.ref v :: S) h := Rg rfl
set_option maxRecDepth 100000 in
theorem e144_463 {L : Lo} {S : List Value} {h : Hp} {x0 x1 x2 x3 x4 x5 x6 x7 x8 : Option Value} {v : Int32} : Run 144 463 (x0 :: x1 :: x2 :: x3 :: x4 :: x5 :: x6 :: x7 :: x8 :: some (.int v) :: L) S h = Run 144 465 (x0 :: x1 :: x2 :: x3 :: x4 :: x5 :: x6 :: x7 :: x8 :: some (.int v) :: L) (.int v :: S) h := Rg rfl
set_option maxRecDepth 100000 in
theorem e144_465 {L : Lo} {S : List Value} {h : Hp} : Run 144 465 L S h = Run 144 466 L (.int 1 :: S) h := Rg rfl
set_option maxRecDepth 100000 in
theorem e144_466 {L : Lo} {h : Hp} {a4 : Int32} {a3 : Int32} {a2 : Nat} {a1 : Int32} {a0 : Nat} : Run 144 466 L [.int a4, .int a3, .ref a2, .int a1, .ref a0] h = (Run 126 0 [some (.ref a2), some (.int a3), some (.int a4), none] [] h).bind fun o => aft 144 466 469 L [.int a1, .ref a0] o := Rc (c := 126) (As := [.ref a2, .int a3, .int a4]) (S' := [.int a1, .ref a0]) (pc' := 469) rfl
set_option maxRecDepth 100000 in
theorem e144_469 {L : Lo} {h : Hp} {a2 : Int32} {a1 : Int32} {a0 : Nat} : Run 144 469 L [.int a2, .int a1, .ref a0] h = (Run 128 0 [some (.ref a0), some (.int a1), some (.int a2), none] [] h).bind fun o => aft 144 469 472 L [] o := Rc (c := 128) (As := [.ref a0, .int a1, .int a2]) (S' := []) (pc' := 472) rfl
set_option maxRecDepth 100000 in
theorem e144_472 {L : Lo} {S : List Value} {h : Hp} : Run 144 472 L S h = Run 144 473 L (.int 1 :: S) h := Rg rfl
set_option maxRecDepth 100000 in
theorem e144_473 {L : Lo} {S : List Value} {h : Hp} {x z : Int32} : Run 144 473 L (.int z :: .int x :: S) h = if x = z then Run 144 478 L S h else Run 144 476 L S h := Rbr (c := cnd .eq x z = true) (off := 5) rfl rfl cnd_eq
set_option maxRecDepth 100000 in
theorem e144_476 {L : Lo} {S : List Value} {h : Hp} : Run 144 476 L S h = Run 144 477 L (.int 0 :: S) h := Rg rfl
set_option maxRecDepth 100000 in
theorem e144_477 {L : Lo} {h : Hp} {x : Int32} (hx : narrow .boolean (.int x) = .int x) : Run 144 477 L [.int x] h = some (.inl (some (.int x)), h) := Rd (if_pos hx)
set_option maxRecDepth 100000 in
theorem e144_478 {L : Lo} {S : List Value} {h : Hp} {x0 x1 x2 x3 x4 x5 : Option Value} {v : Int32} : Run 144 478 (x0 :: x1 :: x2 :: x3 :: x4 :: x5 :: some (.int v) :: L) S h = Run 144 481 (x0 :: x1 :: x2 :: x3 :: x4 :: x5 :: some (.int (v + 1)) :: L) S h := Rg rfl
set_option maxRecDepth 100000 in
theorem e144_481 {L : Lo} {S : List Value} {h : Hp} : Run 144 481 L S h = Run 144 114 L S h := Rg rfl
set_option maxRecDepth 100000 in
theorem e144_484 {L : Lo} {S : List Value} {h : Hp} {v : Nat} : Run 144 484 (some (.ref v) :: L) S h = Run 144 485 (some (.ref v) :: L) (.ref v :: S) h := Rg rfl
set_option maxRecDepth 100000 in
theorem e144_485 {L : Lo} {S : List Value} {h : Hp} : Run 144 485 L S h = Run 144 486 L (.int 0 :: S) h := Rg rfl
set_option maxRecDepth 100000 in
theorem e144_486 {L : Lo} {h : Hp} {a1 : Int32} {a0 : Nat} : Run 144 486 L [.int a1, .ref a0] h = (Run 141 0 [some (.ref a0), some (.int a1), none] [] h).bind fun o => aft 144 486 489 L [] o := Rc (c := 141) (As := [.ref a0, .int a1]) (S' := []) (pc' := 489) rfl
set_option maxRecDepth 100000 in
theorem e144_489 {L : Lo} {S : List Value} {h : Hp} {x0 x1 x2 x3 x4 x5 : Option Value} {y w : Option Value} {v : UInt64} : Run 144 489 (x0 :: x1 :: x2 :: x3 :: x4 :: x5 :: y :: w :: L) (.double v :: S) h = Run 144 491 (x0 :: x1 :: x2 :: x3 :: x4 :: ck x5 :: some (.double v) :: none :: L) S h := Rg rfl
set_option maxRecDepth 100000 in
theorem e144_491 {L : Lo} {S : List Value} {h : Hp} {v : Nat} : Run 144 491 (some (.ref v) :: L) S h = Run 144 492 (some (.ref v) :: L) (.ref v :: S) h := Rg rfl
set_option maxRecDepth 100000 in
theorem e144_492 {L : Lo} {S : List Value} {h : Hp} : Run 144 492 L S h = Run 144 493 L (.int 1 :: S) h := Rg rfl
set_option maxRecDepth 100000 in
theorem e144_493 {L : Lo} {h : Hp} {a1 : Int32} {a0 : Nat} : Run 144 493 L [.int a1, .ref a0] h = (Run 141 0 [some (.ref a0), some (.int a1), none] [] h).bind fun o => aft 144 493 496 L [] o := Rc (c := 141) (As := [.ref a0, .int a1]) (S' := []) (pc' := 496) rfl
set_option maxRecDepth 100000 in
theorem e144_496 {L : Lo} {S : List Value} {h : Hp} {x0 x1 x2 x3 x4 x5 x6 x7 : Option Value} {y w : Option Value} {v : UInt64} : Run 144 496 (x0 :: x1 :: x2 :: x3 :: x4 :: x5 :: x6 :: x7 :: y :: w :: L) (.double v :: S) h = Run 144 498 (x0 :: x1 :: x2 :: x3 :: x4 :: x5 :: x6 :: ck x7 :: some (.double v) :: none :: L) S h := Rg rfl
set_option maxRecDepth 100000 in
theorem e144_498 {L : Lo} {S : List Value} {h : Hp} {x0 x1 x2 : Option Value} {v : Int32} : Run 144 498 (x0 :: x1 :: x2 :: some (.int v) :: L) S h = Run 144 499 (x0 :: x1 :: x2 :: some (.int v) :: L) (.int v :: S) h := Rg rfl
set_option maxRecDepth 100000 in
theorem e144_499 {L : Lo} {S : List Value} {h : Hp} {x0 x1 x2 x3 x4 : Option Value} {v : Int32} : Run 144 499 (x0 :: x1 :: x2 :: x3 :: x4 :: some (.int v) :: L) S h = Run 144 501 (x0 :: x1 :: x2 :: x3 :: x4 :: some (.int v) :: L) (.int v :: S) h := Rg rfl
set_option maxRecDepth 100000 in
theorem e144_501 {L : Lo} {S : List Value} {h : Hp} {x z : Int32} : Run 144 501 L (.int z :: .int x :: S) h = if x = z then Run 144 504 L S h else Run 144 637 L S h := RbrN (c := cnd .ne x z = true) (off := 136) rfl rfl cnd_ne
set_option maxRecDepth 100000 in
theorem e144_504 {L : Lo} {S : List Value} {h : Hp} {v : Nat} : Run 144 504 (some (.ref v) :: L) S h = Run 144 505 (some (.ref v) :: L) (.ref v :: S) h := Rg rfl
set_option maxRecDepth 100000 in
theorem e144_505 {L : Lo} {S : List Value} {h : Hp} : Run 144 505 L S h = Run 144 507 L (.int 6 :: S) h := Rg rfl
set_option maxRecDepth 100000 in
theorem e144_507 {L : Lo} {h : Hp} {a1 : Int32} {a0 : Nat} : Run 144 507 L [.int a1, .ref a0] h = (Run 125 0 [some (.ref a0), some (.int a1), none] [] h).bind fun o => aft 144 507 510 L [] o := Rc (c := 125) (As := [.ref a0, .int a1]) (S' := []) (pc' := 510) rfl
set_option maxRecDepth 100000 in
theorem e144_510 {L : Lo} {S : List Value} {h : Hp} {v : Nat} : Run 144 510 (some (.ref v) :: L) S h = Run 144 511 (some (.ref v) :: L) (.ref v :: S) h := Rg rfl
set_option maxRecDepth 100000 in
theorem e144_511 {L : Lo} {S : List Value} {h : Hp} : Run 144 511 L S h = Run 144 513 L (.int 7 :: S) h := Rg rfl
set_option maxRecDepth 100000 in
theorem e144_513 {L : Lo} {h : Hp} {a2 : Int32} {a1 : Nat} {a0 : Int32} : Run 144 513 L [.int a2, .ref a1, .int a0] h = (Run 125 0 [some (.ref a1), some (.int a2), none] [] h).bind fun o => aft 144 513 516 L [.int a0] o := Rc (c := 125) (As := [.ref a1, .int a2]) (S' := [.int a0]) (pc' := 516) rfl
set_option maxRecDepth 100000 in
theorem e144_516 {L : Lo} {S : List Value} {h : Hp} {x z : Int32} : Run 144 516 L (.int z :: .int x :: S) h = Run 144 517 L (.int (x + z) :: S) h := Rg rfl
set_option maxRecDepth 100000 in
theorem e144_517 {L : Lo} {S : List Value} {h : Hp} {x0 x1 x2 x3 x4 : Option Value} {v : Int32} : Run 144 517 (x0 :: x1 :: x2 :: x3 :: x4 :: some (.int v) :: L) S h = Run 144 519 (x0 :: x1 :: x2 :: x3 :: x4 :: some (.int v) :: L) (.int v :: S) h := Rg rfl
set_option maxRecDepth 100000 in
theorem e144_519 {L : Lo} {S : List Value} {h : Hp} {x z : Int32} : Run 144 519 L (.int z :: .int x :: S) h = if x = z then Run 144 522 L S h else Run 144 637 L S h := RbrN (c := cnd .ne x z = true) (off := 118) rfl rfl cnd_ne
set_option maxRecDepth 100000 in
theorem e144_522 {L : Lo} {S : List Value} {h : Hp} {x0 x1 x2 x3 : Option Value} {v : Int32} : Run 144 522 (x0 :: x1 :: x2 :: x3 :: some (.int v) :: L) S h = Run 144 524 (x0 :: x1 :: x2 :: x3 :: some (.int v) :: L) (.int v :: S) h := Rg rfl
set_option maxRecDepth 100000 in
theorem e144_524 {L : Lo} {S : List Value} {h : Hp} {v : Nat} : Run 144 524 (some (.ref v) :: L) S h = Run 144 525 (some (.ref v) :: L) (.ref v :: S) h := Rg rfl
set_option maxRecDepth 100000 in
theorem e144_525 {L : Lo} {S : List Value} {h : Hp} : Run 144 525 L S h = Run 144 527 L (.int 8 :: S) h := Rg rfl
set_option maxRecDepth 100000 in
theorem e144_527 {L : Lo} {h : Hp} {a2 : Int32} {a1 : Nat} {a0 : Int32} : Run 144 527 L [.int a2, .ref a1, .int a0] h = (Run 125 0 [some (.ref a1), some (.int a2), none] [] h).bind fun o => aft 144 527 530 L [.int a0] o := Rc (c := 125) (As := [.ref a1, .int a2]) (S' := [.int a0]) (pc' := 530) rfl
set_option maxRecDepth 100000 in
theorem e144_530 {L : Lo} {S : List Value} {h : Hp} {x z : Int32} : Run 144 530 L (.int z :: .int x :: S) h = if x = z then Run 144 533 L S h else Run 144 637 L S h := RbrN (c := cnd .ne x z = true) (off := 107) rfl rfl cnd_ne
set_option maxRecDepth 100000 in
theorem e144_533 {L : Lo} {S : List Value} {h : Hp} {x0 x1 x2 x3 : Option Value} {v : Int32} : Run 144 533 (x0 :: x1 :: x2 :: x3 :: some (.int v) :: L) S h = Run 144 535 (x0 :: x1 :: x2 :: x3 :: some (.int v) :: L) (.int v :: S) h := Rg rfl
set_option maxRecDepth 100000 in
theorem e144_535 {L : Lo} {S : List Value} {h : Hp} {x : Int32} : Run 144 535 L (.int x :: S) h = if x = 0 then Run 144 538 L S h else Run 144 542 L S h := RbrN (c := cnd .ne x 0 = true) (off := 7) rfl rfl cnd_ne
set_option maxRecDepth 100000 in
theorem e144_538 {L : Lo} {S : List Value} {h : Hp} : Run 144 538 L S h = Run 144 539 L (.int 1 :: S) h := Rg rfl
set_option maxRecDepth 100000 in
theorem e144_539 {L : Lo} {S : List Value} {h : Hp} : Run 144 539 L S h = Run 144 543 L S h := Rg rfl
set_option maxRecDepth 100000 in
theorem e144_542 {L : Lo} {S : List Value} {h : Hp} : Run 144 542 L S h = Run 144 543 L (.int 0 :: S) h := Rg rfl
set_option maxRecDepth 100000 in
theorem e144_543 {L : Lo} {S : List Value} {h : Hp} {v : Nat} : Run 144 543 (some (.ref v) :: L) S h = Run 144 544 (some (.ref v) :: L) (.ref v :: S) h := Rg rfl
set_option maxRecDepth 100000 in
theorem e144_544 {L : Lo} {S : List Value} {h : Hp} : Run 144 544 L S h = Run 144 546 L (.int 9 :: S) h := Rg rfl
set_option maxRecDepth 100000 in
theorem e144_546 {L : Lo} {h : Hp} {a2 : Int32} {a1 : Nat} {a0 : Int32} : Run 144 546 L [.int a2, .ref a1, .int a0] h = (Run 125 0 [some (.ref a1), some (.int a2), none] [] h).bind fun o => aft 144 546 549 L [.int a0] o := Rc (c := 125) (As := [.ref a1, .int a2]) (S' := [.int a0]) (pc' := 549) rfl
set_option maxRecDepth 100000 in
theorem e144_549 {L : Lo} {S : List Value} {h : Hp} : Run 144 549 L S h = Run 144 550 L (.int (-1) :: S) h := Rg rfl
set_option maxRecDepth 100000 in
theorem e144_550 {L : Lo} {S : List Value} {h : Hp} {x z : Int32} : Run 144 550 L (.int z :: .int x :: S) h = if x = z then Run 144 553 L S h else Run 144 557 L S h := RbrN (c := cnd .ne x z = true) (off := 7) rfl rfl cnd_ne
set_option maxRecDepth 100000 in
theorem e144_553 {L : Lo} {S : List Value} {h : Hp} : Run 144 553 L S h = Run 144 554 L (.int 1 :: S) h := Rg rfl
set_option maxRecDepth 100000 in
theorem e144_554 {L : Lo} {S : List Value} {h : Hp} : Run 144 554 L S h = Run 144 558 L S h := Rg rfl
set_option maxRecDepth 100000 in
theorem e144_557 {L : Lo} {S : List Value} {h : Hp} : Run 144 557 L S h = Run 144 558 L (.int 0 :: S) h := Rg rfl
set_option maxRecDepth 100000 in
theorem e144_558 {L : Lo} {S : List Value} {h : Hp} {x z : Int32} : Run 144 558 L (.int z :: .int x :: S) h = if x = z then Run 144 561 L S h else Run 144 637 L S h := RbrN (c := cnd .ne x z = true) (off := 79) rfl rfl cnd_ne
set_option maxRecDepth 100000 in
theorem e144_561 {L : Lo} {S : List Value} {h : Hp} {x0 x1 x2 x3 : Option Value} {v : Int32} : Run 144 561 (x0 :: x1 :: x2 :: x3 :: some (.int v) :: L) S h = Run 144 563 (x0 :: x1 :: x2 :: x3 :: some (.int v) :: L) (.int v :: S) h := Rg rfl
set_option maxRecDepth 100000 in
theorem e144_563 {L : Lo} {S : List Value} {h : Hp} {x : Int32} : Run 144 563 L (.int x :: S) h = if x = 0 then Run 144 581 L S h else Run 144 566 L S h := Rbr (c := cnd .eq x 0 = true) (off := 18) rfl rfl cnd_eq
set_option maxRecDepth 100000 in
theorem e144_566 {L : Lo} {S : List Value} {h : Hp} {v : Nat} : Run 144 566 (some (.ref v) :: L) S h = Run 144 567 (some (.ref v) :: L) (.ref v :: S) h := Rg rfl
set_option maxRecDepth 100000 in
theorem e144_567 {L : Lo} {S : List Value} {h : Hp} {v : Nat} : Run 144 567 (some (.ref v) :: L) S h = Run 144 568 (some (.ref v) :: L) (.ref v :: S) h := Rg rfl
set_option maxRecDepth 100000 in
theorem e144_568 {L : Lo} {S : List Value} {h : Hp} : Run 144 568 L S h = Run 144 570 L (.int 9 :: S) h := Rg rfl
set_option maxRecDepth 100000 in
theorem e144_570 {L : Lo} {h : Hp} {a2 : Int32} {a1 : Nat} {a0 : Nat} : Run 144 570 L [.int a2, .ref a1, .ref a0] h = (Run 125 0 [some (.ref a1), some (.int a2), none] [] h).bind fun o => aft 144 570 573 L [.ref a0] o := Rc (c := 125) (As := [.ref a1, .int a2]) (S' := [.ref a0]) (pc' := 573) rfl
set_option maxRecDepth 100000 in
theorem e144_573 {L : Lo} {h : Hp} {a1 : Int32} {a0 : Nat} : Run 144 573 L [.int a1, .ref a0] h = (Run 127 0 [some (.ref a0), some (.int a1), none] [] h).bind fun o => aft 144 573 576 L [] o := Rc (c := 127) (As := [.ref a0, .int a1]) (S' := []) (pc' := 576) rfl
set_option maxRecDepth 100000 in
theorem e144_576 {L : Lo} {S : List Value} {h : Hp} : Run 144 576 L S h = Run 144 578 L (.int (-2) :: S) h := Rg rfl
set_option maxRecDepth 100000 in
theorem e144_578 {L : Lo} {S : List Value} {h : Hp} {x z : Int32} : Run 144 578 L (.int z :: .int x :: S) h = if x = z then Run 144 581 L S h else Run 144 637 L S h := RbrN (c := cnd .ne x z = true) (off := 59) rfl rfl cnd_ne
set_option maxRecDepth 100000 in
theorem e144_581 {L : Lo} {S : List Value} {h : Hp} {x0 x1 x2 x3 x4 x5 : Option Value} {v : UInt64} : Run 144 581 (x0 :: x1 :: x2 :: x3 :: x4 :: x5 :: some (.double v) :: L) S h = Run 144 583 (x0 :: x1 :: x2 :: x3 :: x4 :: x5 :: some (.double v) :: L) (.double v :: S) h := Rg rfl
set_option maxRecDepth 100000 in
theorem e144_583 {L : Lo} {S : List Value} {h : Hp} : Run 144 583 L S h = Run 144 584 L (.double FP.dconst0 :: S) h := Rg rfl
set_option maxRecDepth 100000 in
theorem e144_584 {L : Lo} {S : List Value} {h : Hp} {x z : UInt64} : Run 144 584 L (.double z :: .double x :: S) h = Run 144 585 L (.int (Op.cmpValue (FP.dcmp x z) .l) :: S) h := Rg rfl
set_option maxRecDepth 100000 in
theorem e144_585 {L : Lo} {S : List Value} {h : Hp} {x : Int32} : Run 144 585 L (.int x :: S) h = if x < 0 then Run 144 637 L S h else Run 144 588 L S h := Rbr (c := cnd .lt x 0 = true) (off := 52) rfl rfl cnd_lt
set_option maxRecDepth 100000 in
theorem e144_588 {L : Lo} {S : List Value} {h : Hp} {x0 x1 x2 x3 x4 x5 : Option Value} {v : UInt64} : Run 144 588 (x0 :: x1 :: x2 :: x3 :: x4 :: x5 :: some (.double v) :: L) S h = Run 144 590 (x0 :: x1 :: x2 :: x3 :: x4 :: x5 :: some (.double v) :: L) (.double v :: S) h := Rg rfl
set_option maxRecDepth 100000 in
theorem e144_590 {L : Lo} {S : List Value} {h : Hp} : Run 144 590 L S h = Run 144 591 L (.double FP.dconst1 :: S) h := Rg rfl
set_option maxRecDepth 100000 in
theorem e144_591 {L : Lo} {S : List Value} {h : Hp} {x z : UInt64} : Run 144 591 L (.double z :: .double x :: S) h = Run 144 592 L (.int (Op.cmpValue (FP.dcmp x z) .g) :: S) h := Rg rfl
set_option maxRecDepth 100000 in
theorem e144_592 {L : Lo} {S : List Value} {h : Hp} {x : Int32} : Run 144 592 L (.int x :: S) h = if 0 < x then Run 144 637 L S h else Run 144 595 L S h := Rbr (c := cnd .gt x 0 = true) (off := 45) rfl rfl cnd_gt
set_option maxRecDepth 100000 in
theorem e144_595 {L : Lo} {S : List Value} {h : Hp} {x0 x1 x2 x3 x4 x5 : Option Value} {v : UInt64} : Run 144 595 (x0 :: x1 :: x2 :: x3 :: x4 :: x5 :: some (.double v) :: L) S h = Run 144 597 (x0 :: x1 :: x2 :: x3 :: x4 :: x5 :: some (.double v) :: L) (.double v :: S) h := Rg rfl
set_option maxRecDepth 100000 in
theorem e144_597 {L : Lo} {S : List Value} {h : Hp} {x0 x1 x2 x3 x4 x5 x6 x7 : Option Value} {v : UInt64} : Run 144 597 (x0 :: x1 :: x2 :: x3 :: x4 :: x5 :: x6 :: x7 :: some (.double v) :: L) S h = Run 144 599 (x0 :: x1 :: x2 :: x3 :: x4 :: x5 :: x6 :: x7 :: some (.double v) :: L) (.double v :: S) h := Rg rfl
set_option maxRecDepth 100000 in
theorem e144_599 {L : Lo} {S : List Value} {h : Hp} {x z : UInt64} (hz : vf_n64 (FP.dadd x z)) : Run 144 599 L (.double z :: .double x :: S) h = Run 144 600 L (.double (FP.dadd x z) :: S) h := Rg (if_pos hz)
set_option maxRecDepth 100000 in
theorem e144_600 {L : Lo} {S : List Value} {h : Hp} : Run 144 600 L S h = Run 144 603 L (.double (4607173411600762667 : UInt64) :: S) h := Rg rfl
set_option maxRecDepth 100000 in
theorem e144_603 {L : Lo} {S : List Value} {h : Hp} {x z : UInt64} : Run 144 603 L (.double z :: .double x :: S) h = Run 144 604 L (.int (Op.cmpValue (FP.dcmp x z) .l) :: S) h := Rg rfl
set_option maxRecDepth 100000 in
theorem e144_604 {L : Lo} {S : List Value} {h : Hp} {x : Int32} : Run 144 604 L (.int x :: S) h = if x ≤ 0 then Run 144 637 L S h else Run 144 607 L S h := Rbr (c := cnd .le x 0 = true) (off := 33) rfl rfl cnd_le
set_option maxRecDepth 100000 in
theorem e144_607 {L : Lo} {S : List Value} {h : Hp} {x0 x1 x2 x3 x4 x5 : Option Value} {v : UInt64} : Run 144 607 (x0 :: x1 :: x2 :: x3 :: x4 :: x5 :: some (.double v) :: L) S h = Run 144 609 (x0 :: x1 :: x2 :: x3 :: x4 :: x5 :: some (.double v) :: L) (.double v :: S) h := Rg rfl
set_option maxRecDepth 100000 in
theorem e144_609 {L : Lo} {S : List Value} {h : Hp} {x0 x1 x2 x3 x4 x5 x6 x7 : Option Value} {v : UInt64} : Run 144 609 (x0 :: x1 :: x2 :: x3 :: x4 :: x5 :: x6 :: x7 :: some (.double v) :: L) S h = Run 144 611 (x0 :: x1 :: x2 :: x3 :: x4 :: x5 :: x6 :: x7 :: some (.double v) :: L) (.double v :: S) h := Rg rfl
set_option maxRecDepth 100000 in
theorem e144_611 {L : Lo} {S : List Value} {h : Hp} {x z : UInt64} (hz : vf_n64 (FP.dadd x z)) : Run 144 611 L (.double z :: .double x :: S) h = Run 144 612 L (.double (FP.dadd x z) :: S) h := Rg (if_pos hz)
set_option maxRecDepth 100000 in
theorem e144_612 {L : Lo} {S : List Value} {h : Hp} : Run 144 612 L S h = Run 144 615 L (.double (4607186922399644778 : UInt64) :: S) h := Rg rfl
set_option maxRecDepth 100000 in
theorem e144_615 {L : Lo} {S : List Value} {h : Hp} {x z : UInt64} : Run 144 615 L (.double z :: .double x :: S) h = Run 144 616 L (.int (Op.cmpValue (FP.dcmp x z) .g) :: S) h := Rg rfl
set_option maxRecDepth 100000 in
theorem e144_616 {L : Lo} {S : List Value} {h : Hp} {x : Int32} : Run 144 616 L (.int x :: S) h = if 0 ≤ x then Run 144 637 L S h else Run 144 619 L S h := Rbr (c := cnd .ge x 0 = true) (off := 21) rfl rfl cnd_ge
set_option maxRecDepth 100000 in
theorem e144_619 {L : Lo} {S : List Value} {h : Hp} {x0 x1 x2 x3 x4 : Option Value} {v : Int32} : Run 144 619 (x0 :: x1 :: x2 :: x3 :: x4 :: some (.int v) :: L) S h = Run 144 621 (x0 :: x1 :: x2 :: x3 :: x4 :: some (.int v) :: L) (.int v :: S) h := Rg rfl
set_option maxRecDepth 100000 in
theorem e144_621 {L : Lo} {S : List Value} {h : Hp} {x : Int32} : Run 144 621 L (.int x :: S) h = if 0 < x then Run 144 633 L S h else Run 144 624 L S h := Rbr (c := cnd .gt x 0 = true) (off := 12) rfl rfl cnd_gt
set_option maxRecDepth 100000 in
theorem e144_624 {L : Lo} {S : List Value} {h : Hp} {x0 x1 x2 x3 x4 x5 : Option Value} {v : UInt64} : Run 144 624 (x0 :: x1 :: x2 :: x3 :: x4 :: x5 :: some (.double v) :: L) S h = Run 144 626 (x0 :: x1 :: x2 :: x3 :: x4 :: x5 :: some (.double v) :: L) (.double v :: S) h := Rg rfl
set_option maxRecDepth 100000 in
theorem e144_626 {L : Lo} {S : List Value} {h : Hp} : Run 144 626 L S h = Run 144 629 L (.double (4602678819172646912 : UInt64) :: S) h := Rg rfl
set_option maxRecDepth 100000 in
theorem e144_629 {L : Lo} {S : List Value} {h : Hp} {x z : UInt64} : Run 144 629 L (.double z :: .double x :: S) h = Run 144 630 L (.int (Op.cmpValue (FP.dcmp x z) .l) :: S) h := Rg rfl
set_option maxRecDepth 100000 in
theorem e144_630 {L : Lo} {S : List Value} {h : Hp} {x : Int32} : Run 144 630 L (.int x :: S) h = if x = 0 then Run 144 633 L S h else Run 144 637 L S h := RbrN (c := cnd .ne x 0 = true) (off := 7) rfl rfl cnd_ne
set_option maxRecDepth 100000 in
theorem e144_633 {L : Lo} {S : List Value} {h : Hp} : Run 144 633 L S h = Run 144 634 L (.int 1 :: S) h := Rg rfl
set_option maxRecDepth 100000 in
theorem e144_634 {L : Lo} {S : List Value} {h : Hp} : Run 144 634 L S h = Run 144 638 L S h := Rg rfl
set_option maxRecDepth 100000 in
theorem e144_637 {L : Lo} {S : List Value} {h : Hp} : Run 144 637 L S h = Run 144 638 L (.int 0 :: S) h := Rg rfl
set_option maxRecDepth 100000 in
theorem e144_638 {L : Lo} {h : Hp} {x : Int32} (hx : narrow .boolean (.int x) = .int x) : Run 144 638 L [.int x] h = some (.inl (some (.int x)), h) := Rd (if_pos hx)
set_option maxRecDepth 100000 in
theorem e145_0 {L : Lo} {S : List Value} {h : Hp} {v : Nat} : Run 145 0 (some (.ref v) :: L) S h = Run 145 1 (some (.ref v) :: L) (.ref v :: S) h := Rg rfl
set_option maxRecDepth 100000 in
theorem e145_1 {L : Lo} {S : List Value} {h : Hp} : Run 145 1 L S h = Run 145 2 L (.int 0 :: S) h := Rg rfl
set_option maxRecDepth 100000 in
theorem e145_2 {L : Lo} {h : Hp} {a1 : Int32} {a0 : Nat} : Run 145 2 L [.int a1, .ref a0] h = (Run 125 0 [some (.ref a0), some (.int a1), none] [] h).bind fun o => aft 145 2 5 L [] o := Rc (c := 125) (As := [.ref a0, .int a1]) (S' := []) (pc' := 5) rfl
set_option maxRecDepth 100000 in
theorem e145_5 {L : Lo} {S : List Value} {h : Hp} {v : Nat} : Run 145 5 (some (.ref v) :: L) S h = Run 145 6 (some (.ref v) :: L) (.ref v :: S) h := Rg rfl
set_option maxRecDepth 100000 in
theorem e145_6 {L : Lo} {S : List Value} {h : Hp} : Run 145 6 L S h = Run 145 7 L (.int 1 :: S) h := Rg rfl
set_option maxRecDepth 100000 in
theorem e145_7 {L : Lo} {h : Hp} {a2 : Int32} {a1 : Nat} {a0 : Int32} : Run 145 7 L [.int a2, .ref a1, .int a0] h = (Run 125 0 [some (.ref a1), some (.int a2), none] [] h).bind fun o => aft 145 7 10 L [.int a0] o := Rc (c := 125) (As := [.ref a1, .int a2]) (S' := [.int a0]) (pc' := 10) rfl
set_option maxRecDepth 100000 in
theorem e145_10 {L : Lo} {S : List Value} {h : Hp} {x z : Int32} : Run 145 10 L (.int z :: .int x :: S) h = Run 145 11 L (.int (x * z) :: S) h := Rg rfl
set_option maxRecDepth 100000 in
theorem e145_11 {L : Lo} {S : List Value} {h : Hp} {x0 x1 : Option Value} {y : Option Value} {v : Int32} : Run 145 11 (x0 :: x1 :: y :: L) (.int v :: S) h = Run 145 12 (x0 :: ck x1 :: some (.int v) :: L) S h := Rg rfl
set_option maxRecDepth 100000 in
theorem e145_12 {L : Lo} {S : List Value} {h : Hp} {x0 : Option Value} {v : Int32} : Run 145 12 (x0 :: some (.int v) :: L) S h = Run 145 13 (x0 :: some (.int v) :: L) (.int v :: S) h := Rg rfl
set_option maxRecDepth 100000 in
theorem e145_13 {L : Lo} {S : List Value} {h : Hp} {x0 x1 : Option Value} {v : Int32} : Run 145 13 (x0 :: x1 :: some (.int v) :: L) S h = Run 145 14 (x0 :: x1 :: some (.int v) :: L) (.int v :: S) h := Rg rfl
set_option maxRecDepth 100000 in
theorem e145_14 {L : Lo} {h : Hp} {a1 : Int32} {a0 : Int32} : Run 145 14 L [.int a1, .int a0] h = (Run 120 0 [some (.int a0), some (.int a1)] [] h).bind fun o => aft 145 14 17 L [] o := Rc (c := 120) (As := [.int a0, .int a1]) (S' := []) (pc' := 17) rfl
set_option maxRecDepth 100000 in
theorem e145_17 {L : Lo} {S : List Value} {h : Hp} {x0 x1 x2 : Option Value} {y : Option Value} {v : Int32} : Run 145 17 (x0 :: x1 :: x2 :: y :: L) (.int v :: S) h = Run 145 18 (x0 :: x1 :: ck x2 :: some (.int v) :: L) S h := Rg rfl
set_option maxRecDepth 100000 in
theorem e145_18 {L : Lo} {S : List Value} {h : Hp} {x0 : Option Value} {v : Int32} : Run 145 18 (x0 :: some (.int v) :: L) S h = Run 145 19 (x0 :: some (.int v) :: L) (.int v :: S) h := Rg rfl
set_option maxRecDepth 100000 in
theorem e145_19 {L : Lo} {S : List Value} {h : Hp} : Run 145 19 L S h = Run 145 21 L (.int 8 :: S) h := Rg rfl
set_option maxRecDepth 100000 in
theorem e145_21 {L : Lo} {S : List Value} {h : Hp} {x z : Int32} : Run 145 21 L (.int z :: .int x :: S) h = Run 145 22 L (.int (x >>> (z &&& 31)) :: S) h := Rg rfl
set_option maxRecDepth 100000 in
theorem e145_22 {L : Lo} {S : List Value} {h : Hp} {x0 x1 : Option Value} {v : Int32} : Run 145 22 (x0 :: x1 :: some (.int v) :: L) S h = Run 145 23 (x0 :: x1 :: some (.int v) :: L) (.int v :: S) h := Rg rfl
set_option maxRecDepth 100000 in
theorem e145_23 {L : Lo} {h : Hp} {a1 : Int32} {a0 : Int32} : Run 145 23 L [.int a1, .int a0] h = (Run 120 0 [some (.int a0), some (.int a1)] [] h).bind fun o => aft 145 23 26 L [] o := Rc (c := 120) (As := [.int a0, .int a1]) (S' := []) (pc' := 26) rfl
set_option maxRecDepth 100000 in
theorem e145_26 {L : Lo} {S : List Value} {h : Hp} {x0 x1 x2 x3 : Option Value} {y : Option Value} {v : Int32} : Run 145 26 (x0 :: x1 :: x2 :: x3 :: y :: L) (.int v :: S) h = Run 145 28 (x0 :: x1 :: x2 :: ck x3 :: some (.int v) :: L) S h := Rg rfl
set_option maxRecDepth 100000 in
theorem e145_28 {L : Lo} {S : List Value} {h : Hp} {x0 : Option Value} {v : Int32} : Run 145 28 (x0 :: some (.int v) :: L) S h = Run 145 29 (x0 :: some (.int v) :: L) (.int v :: S) h := Rg rfl
set_option maxRecDepth 100000 in
theorem e145_29 {L : Lo} {S : List Value} {h : Hp} : Run 145 29 L S h = Run 145 31 L (.int 16 :: S) h := Rg rfl
set_option maxRecDepth 100000 in
theorem e145_31 {L : Lo} {S : List Value} {h : Hp} {x z : Int32} : Run 145 31 L (.int z :: .int x :: S) h = Run 145 32 L (.int (x >>> (z &&& 31)) :: S) h := Rg rfl
set_option maxRecDepth 100000 in
theorem e145_32 {L : Lo} {S : List Value} {h : Hp} {x0 x1 : Option Value} {v : Int32} : Run 145 32 (x0 :: x1 :: some (.int v) :: L) S h = Run 145 33 (x0 :: x1 :: some (.int v) :: L) (.int v :: S) h := Rg rfl
set_option maxRecDepth 100000 in
theorem e145_33 {L : Lo} {h : Hp} {a1 : Int32} {a0 : Int32} : Run 145 33 L [.int a1, .int a0] h = (Run 120 0 [some (.int a0), some (.int a1)] [] h).bind fun o => aft 145 33 36 L [] o := Rc (c := 120) (As := [.int a0, .int a1]) (S' := []) (pc' := 36) rfl
set_option maxRecDepth 100000 in
theorem e145_36 {L : Lo} {S : List Value} {h : Hp} {x0 x1 x2 x3 x4 : Option Value} {y : Option Value} {v : Int32} : Run 145 36 (x0 :: x1 :: x2 :: x3 :: x4 :: y :: L) (.int v :: S) h = Run 145 38 (x0 :: x1 :: x2 :: x3 :: ck x4 :: some (.int v) :: L) S h := Rg rfl
set_option maxRecDepth 100000 in
theorem e145_38 {L : Lo} {S : List Value} {h : Hp} {v : Nat} : Run 145 38 (some (.ref v) :: L) S h = Run 145 39 (some (.ref v) :: L) (.ref v :: S) h := Rg rfl
set_option maxRecDepth 100000 in
theorem e145_39 {L : Lo} {S : List Value} {h : Hp} {x0 x1 x2 : Option Value} {v : Int32} : Run 145 39 (x0 :: x1 :: x2 :: some (.int v) :: L) S h = Run 145 40 (x0 :: x1 :: x2 :: some (.int v) :: L) (.int v :: S) h := Rg rfl
set_option maxRecDepth 100000 in
theorem e145_40 {L : Lo} {S : List Value} {h : Hp} {x0 x1 x2 x3 : Option Value} {v : Int32} : Run 145 40 (x0 :: x1 :: x2 :: x3 :: some (.int v) :: L) S h = Run 145 42 (x0 :: x1 :: x2 :: x3 :: some (.int v) :: L) (.int v :: S) h := Rg rfl
set_option maxRecDepth 100000 in
theorem e145_42 {L : Lo} {h : Hp} {a2 : Int32} {a1 : Int32} {a0 : Nat} : Run 145 42 L [.int a2, .int a1, .ref a0] h = (Run 129 0 [some (.ref a0), some (.int a1), some (.int a2), none] [] h).bind fun o => aft 145 42 45 L [] o := Rc (c := 129) (As := [.ref a0, .int a1, .int a2]) (S' := []) (pc' := 45) rfl
set_option maxRecDepth 100000 in
theorem e145_45 {L : Lo} {S : List Value} {h : Hp} {x0 x1 x2 x3 x4 x5 : Option Value} {y : Option Value} {v : Int32} : Run 145 45 (x0 :: x1 :: x2 :: x3 :: x4 :: x5 :: y :: L) (.int v :: S) h = Run 145 47 (x0 :: x1 :: x2 :: x3 :: x4 :: ck x5 :: some (.int v) :: L) S h := Rg rfl
set_option maxRecDepth 100000 in
theorem e145_47 {L : Lo} {S : List Value} {h : Hp} {v : Nat} : Run 145 47 (some (.ref v) :: L) S h = Run 145 48 (some (.ref v) :: L) (.ref v :: S) h := Rg rfl
set_option maxRecDepth 100000 in
theorem e145_48 {L : Lo} {S : List Value} {h : Hp} {x0 x1 x2 x3 : Option Value} {v : Int32} : Run 145 48 (x0 :: x1 :: x2 :: x3 :: some (.int v) :: L) S h = Run 145 50 (x0 :: x1 :: x2 :: x3 :: some (.int v) :: L) (.int v :: S) h := Rg rfl
set_option maxRecDepth 100000 in
theorem e145_50 {L : Lo} {S : List Value} {h : Hp} {x0 x1 x2 : Option Value} {v : Int32} : Run 145 50 (x0 :: x1 :: x2 :: some (.int v) :: L) S h = Run 145 51 (x0 :: x1 :: x2 :: some (.int v) :: L) (.int v :: S) h := Rg rfl
set_option maxRecDepth 100000 in
theorem e145_51 {L : Lo} {h : Hp} {a2 : Int32} {a1 : Int32} {a0 : Nat} : Run 145 51 L [.int a2, .int a1, .ref a0] h = (Run 129 0 [some (.ref a0), some (.int a1), some (.int a2), none] [] h).bind fun o => aft 145 51 54 L [] o := Rc (c := 129) (As := [.ref a0, .int a1, .int a2]) (S' := []) (pc' := 54) rfl
set_option maxRecDepth 100000 in
theorem e145_54 {L : Lo} {S : List Value} {h : Hp} {x0 x1 x2 x3 x4 x5 x6 : Option Value} {y : Option Value} {v : Int32} : Run 145 54 (x0 :: x1 :: x2 :: x3 :: x4 :: x5 :: x6 :: y :: L) (.int v :: S) h = Run 145 56 (x0 :: x1 :: x2 :: x3 :: x4 :: x5 :: ck x6 :: some (.int v) :: L) S h := Rg rfl
set_option maxRecDepth 100000 in
theorem e145_56 {L : Lo} {S : List Value} {h : Hp} {x0 x1 x2 x3 x4 x5 : Option Value} {v : Int32} : Run 145 56 (x0 :: x1 :: x2 :: x3 :: x4 :: x5 :: some (.int v) :: L) S h = Run 145 58 (x0 :: x1 :: x2 :: x3 :: x4 :: x5 :: some (.int v) :: L) (.int v :: S) h := Rg rfl
set_option maxRecDepth 100000 in
theorem e145_58 {L : Lo} {S : List Value} {h : Hp} : Run 145 58 L S h = Run 145 60 L (.int 9 :: S) h := Rg rfl
set_option maxRecDepth 100000 in
theorem e145_60 {L : Lo} {S : List Value} {h : Hp} {x z : Int32} : Run 145 60 L (.int z :: .int x :: S) h = if x ≤ z then Run 145 67 L S h else Run 145 63 L S h := Rbr (c := cnd .le x z = true) (off := 7) rfl rfl cnd_le
set_option maxRecDepth 100000 in
theorem e145_63 {L : Lo} {S : List Value} {h : Hp} : Run 145 63 L S h = Run 145 64 L (.int 1 :: S) h := Rg rfl
set_option maxRecDepth 100000 in
theorem e145_64 {L : Lo} {S : List Value} {h : Hp} : Run 145 64 L S h = Run 145 68 L S h := Rg rfl
set_option maxRecDepth 100000 in
theorem e145_67 {L : Lo} {S : List Value} {h : Hp} : Run 145 67 L S h = Run 145 68 L (.int 0 :: S) h := Rg rfl
set_option maxRecDepth 100000 in
theorem e145_68 {L : Lo} {S : List Value} {h : Hp} {x0 x1 x2 x3 x4 x5 x6 x7 : Option Value} {y : Option Value} {v : Int32} : Run 145 68 (x0 :: x1 :: x2 :: x3 :: x4 :: x5 :: x6 :: x7 :: y :: L) (.int v :: S) h = Run 145 70 (x0 :: x1 :: x2 :: x3 :: x4 :: x5 :: x6 :: ck x7 :: some (.int v) :: L) S h := Rg rfl
set_option maxRecDepth 100000 in
theorem e145_70 {L : Lo} {S : List Value} {h : Hp} {x0 x1 x2 : Option Value} {v : Int32} : Run 145 70 (x0 :: x1 :: x2 :: some (.int v) :: L) S h = Run 145 71 (x0 :: x1 :: x2 :: some (.int v) :: L) (.int v :: S) h := Rg rfl
set_option maxRecDepth 100000 in
theorem e145_71 {L : Lo} {S : List Value} {h : Hp} {x0 x1 x2 x3 : Option Value} {v : Int32} : Run 145 71 (x0 :: x1 :: x2 :: x3 :: some (.int v) :: L) S h = Run 145 73 (x0 :: x1 :: x2 :: x3 :: some (.int v) :: L) (.int v :: S) h := Rg rfl
set_option maxRecDepth 100000 in
theorem e145_73 {L : Lo} {S : List Value} {h : Hp} {x z : Int32} : Run 145 73 L (.int z :: .int x :: S) h = if x = z then Run 145 76 L S h else Run 145 80 L S h := RbrN (c := cnd .ne x z = true) (off := 7) rfl rfl cnd_ne
set_option maxRecDepth 100000 in
theorem e145_76 {L : Lo} {S : List Value} {h : Hp} : Run 145 76 L S h = Run 145 77 L (.int (-1) :: S) h := Rg rfl
set_option maxRecDepth 100000 in
theorem e145_77 {L : Lo} {S : List Value} {h : Hp} : Run 145 77 L S h = Run 145 102 L S h := Rg rfl
set_option maxRecDepth 100000 in
theorem e145_80 {L : Lo} {S : List Value} {h : Hp} {x0 x1 x2 x3 x4 x5 : Option Value} {v : Int32} : Run 145 80 (x0 :: x1 :: x2 :: x3 :: x4 :: x5 :: some (.int v) :: L) S h = Run 145 82 (x0 :: x1 :: x2 :: x3 :: x4 :: x5 :: some (.int v) :: L) (.int v :: S) h := Rg rfl
set_option maxRecDepth 100000 in
theorem e145_82 {L : Lo} {S : List Value} {h : Hp} : Run 145 82 L S h = Run 145 84 L (.int 10 :: S) h := Rg rfl
set_option maxRecDepth 100000 in
theorem e145_84 {L : Lo} {S : List Value} {h : Hp} {x z : Int32} (hz : ¬ z = 0) : Run 145 84 L (.int z :: .int x :: S) h = Run 145 85 L (.int (x - x / z * z) :: S) h := Rg (if_neg hz)
set_option maxRecDepth 100000 in
theorem e145_85 {L : Lo} {S : List Value} {h : Hp} : Run 145 85 L S h = Run 145 86 L (.int 3 :: S) h := Rg rfl
set_option maxRecDepth 100000 in
theorem e145_86 {L : Lo} {S : List Value} {h : Hp} {x z : Int32} : Run 145 86 L (.int z :: .int x :: S) h = Run 145 87 L (.int (x + z) :: S) h := Rg rfl
set_option maxRecDepth 100000 in
theorem e145_87 {L : Lo} {S : List Value} {h : Hp} : Run 145 87 L S h = Run 145 89 L (.int 6 :: S) h := Rg rfl
set_option maxRecDepth 100000 in
theorem e145_89 {L : Lo} {S : List Value} {h : Hp} {x z : Int32} (hz : ¬ z = 0) : Run 145 89 L (.int z :: .int x :: S) h = Run 145 90 L (.int (x - x / z * z) :: S) h := Rg (if_neg hz)
set_option maxRecDepth 100000 in
theorem e145_90 {L : Lo} {S : List Value} {h : Hp} {x0 x1 x2 x3 x4 x5 x6 x7 : Option Value} {v : Int32} : Run 145 90 (x0 :: x1 :: x2 :: x3 :: x4 :: x5 :: x6 :: x7 :: some (.int v) :: L) S h = Run 145 92 (x0 :: x1 :: x2 :: x3 :: x4 :: x5 :: x6 :: x7 :: some (.int v) :: L) (.int v :: S) h := Rg rfl
set_option maxRecDepth 100000 in
theorem e145_92 {L : Lo} {S : List Value} {h : Hp} {x : Int32} : Run 145 92 L (.int x :: S) h = if x = 0 then Run 145 100 L S h else Run 145 95 L S h := Rbr (c := cnd .eq x 0 = true) (off := 8) rfl rfl cnd_eq
set_option maxRecDepth 100000 in
theorem e145_95 {L : Lo} {S : List Value} {h : Hp} : Run 145 95 L S h = Run 145 97 L (.int 10 :: S) h := Rg rfl
set_option maxRecDepth 100000 in
theorem e145_97 {L : Lo} {S : List Value} {h : Hp} : Run 145 97 L S h = Run 145 101 L S h := Rg rfl
set_option maxRecDepth 100000 in
theorem e145_100 {L : Lo} {S : List Value} {h : Hp} : Run 145 100 L S h = Run 145 101 L (.int 0 :: S) h := Rg rfl
set_option maxRecDepth 100000 in
theorem e145_101 {L : Lo} {S : List Value} {h : Hp} {x z : Int32} : Run 145 101 L (.int z :: .int x :: S) h = Run 145 102 L (.int (x + z) :: S) h := Rg rfl
set_option maxRecDepth 100000 in
theorem e145_102 {L : Lo} {S : List Value} {h : Hp} {x0 x1 x2 x3 x4 x5 x6 x7 x8 : Option Value} {y : Option Value} {v : Int32} : Run 145 102 (x0 :: x1 :: x2 :: x3 :: x4 :: x5 :: x6 :: x7 :: x8 :: y :: L) (.int v :: S) h = Run 145 104 (x0 :: x1 :: x2 :: x3 :: x4 :: x5 :: x6 :: x7 :: ck x8 :: some (.int v) :: L) S h := Rg rfl
set_option maxRecDepth 100000 in
theorem e145_104 {L : Lo} {S : List Value} {h : Hp} {v : Nat} : Run 145 104 (some (.ref v) :: L) S h = Run 145 105 (some (.ref v) :: L) (.ref v :: S) h := Rg rfl
set_option maxRecDepth 100000 in
theorem e145_105 {L : Lo} {S : List Value} {h : Hp} {x0 x1 x2 : Option Value} {v : Int32} : Run 145 105 (x0 :: x1 :: x2 :: some (.int v) :: L) S h = Run 145 106 (x0 :: x1 :: x2 :: some (.int v) :: L) (.int v :: S) h := Rg rfl
set_option maxRecDepth 100000 in
theorem e145_106 {L : Lo} {S : List Value} {h : Hp} {x0 x1 x2 x3 : Option Value} {v : Int32} : Run 145 106 (x0 :: x1 :: x2 :: x3 :: some (.int v) :: L) S h = Run 145 108 (x0 :: x1 :: x2 :: x3 :: some (.int v) :: L) (.int v :: S) h := Rg rfl
set_option maxRecDepth 100000 in
theorem e145_108 {L : Lo} {h : Hp} {a2 : Int32} {a1 : Int32} {a0 : Nat} : Run 145 108 L [.int a2, .int a1, .ref a0] h = (Run 128 0 [some (.ref a0), some (.int a1), some (.int a2), none] [] h).bind fun o => aft 145 108 111 L [] o := Rc (c := 128) (As := [.ref a0, .int a1, .int a2]) (S' := []) (pc' := 111) rfl
set_option maxRecDepth 100000 in
theorem e145_111 {L : Lo} {S : List Value} {h : Hp} {v : Nat} : Run 145 111 (some (.ref v) :: L) S h = Run 145 112 (some (.ref v) :: L) (.ref v :: S) h := Rg rfl
set_option maxRecDepth 100000 in
theorem e145_112 {L : Lo} {S : List Value} {h : Hp} {x0 x1 x2 x3 : Option Value} {v : Int32} : Run 145 112 (x0 :: x1 :: x2 :: x3 :: some (.int v) :: L) S h = Run 145 114 (x0 :: x1 :: x2 :: x3 :: some (.int v) :: L) (.int v :: S) h := Rg rfl
set_option maxRecDepth 100000 in
theorem e145_114 {L : Lo} {S : List Value} {h : Hp} {x0 x1 x2 : Option Value} {v : Int32} : Run 145 114 (x0 :: x1 :: x2 :: some (.int v) :: L) S h = Run 145 115 (x0 :: x1 :: x2 :: some (.int v) :: L) (.int v :: S) h := Rg rfl
set_option maxRecDepth 100000 in
theorem e145_115 {L : Lo} {h : Hp} {a3 : Int32} {a2 : Int32} {a1 : Nat} {a0 : Int32} : Run 145 115 L [.int a3, .int a2, .ref a1, .int a0] h = (Run 128 0 [some (.ref a1), some (.int a2), some (.int a3), none] [] h).bind fun o => aft 145 115 118 L [.int a0] o := Rc (c := 128) (As := [.ref a1, .int a2, .int a3]) (S' := [.int a0]) (pc' := 118) rfl
set_option maxRecDepth 100000 in
theorem e145_118 {L : Lo} {S : List Value} {h : Hp} {x z : Int32} : Run 145 118 L (.int z :: .int x :: S) h = if x = z then Run 145 121 L S h else Run 145 233 L S h := RbrN (c := cnd .ne x z = true) (off := 115) rfl rfl cnd_ne
set_option maxRecDepth 100000 in
theorem e145_121 {L : Lo} {S : List Value} {h : Hp} {v : Nat} : Run 145 121 (some (.ref v) :: L) S h = Run 145 122 (some (.ref v) :: L) (.ref v :: S) h := Rg rfl
set_option maxRecDepth 100000 in
theorem e145_122 {L : Lo} {S : List Value} {h : Hp} {x0 x1 x2 : Option Value} {v : Int32} : Run 145 122 (x0 :: x1 :: x2 :: some (.int v) :: L) S h = Run 145 123 (x0 :: x1 :: x2 :: some (.int v) :: L) (.int v :: S) h := Rg rfl
set_option maxRecDepth 100000 in
theorem e145_123 {L : Lo} {S : List Value} {h : Hp} {x0 x1 x2 x3 : Option Value} {v : Int32} : Run 145 123 (x0 :: x1 :: x2 :: x3 :: some (.int v) :: L) S h = Run 145 125 (x0 :: x1 :: x2 :: x3 :: some (.int v) :: L) (.int v :: S) h := Rg rfl
set_option maxRecDepth 100000 in
theorem e145_125 {L : Lo} {h : Hp} {a2 : Int32} {a1 : Int32} {a0 : Nat} : Run 145 125 L [.int a2, .int a1, .ref a0] h = (Run 128 0 [some (.ref a0), some (.int a1), some (.int a2), none] [] h).bind fun o => aft 145 125 128 L [] o := Rc (c := 128) (As := [.ref a0, .int a1, .int a2]) (S' := []) (pc' := 128) rfl
set_option maxRecDepth 100000 in
theorem e145_128 {L : Lo} {S : List Value} {h : Hp} {x : Int32} : Run 145 128 L (.int x :: S) h = if x = 0 then Run 145 131 L S h else Run 145 135 L S h := RbrN (c := cnd .ne x 0 = true) (off := 7) rfl rfl cnd_ne
set_option maxRecDepth 100000 in
theorem e145_131 {L : Lo} {S : List Value} {h : Hp} : Run 145 131 L S h = Run 145 132 L (.int 1 :: S) h := Rg rfl
set_option maxRecDepth 100000 in
theorem e145_132 {L : Lo} {S : List Value} {h : Hp} : Run 145 132 L S h = Run 145 136 L S h := Rg rfl
set_option maxRecDepth 100000 in
theorem e145_135 {L : Lo} {S : List Value} {h : Hp} : Run 145 135 L S h = Run 145 136 L (.int 0 :: S) h := Rg rfl
set_option maxRecDepth 100000 in
theorem e145_136 {L : Lo} {S : List Value} {h : Hp} {x0 x1 x2 : Option Value} {v : Int32} : Run 145 136 (x0 :: x1 :: x2 :: some (.int v) :: L) S h = Run 145 137 (x0 :: x1 :: x2 :: some (.int v) :: L) (.int v :: S) h := Rg rfl
set_option maxRecDepth 100000 in
theorem e145_137 {L : Lo} {S : List Value} {h : Hp} {x0 x1 x2 x3 : Option Value} {v : Int32} : Run 145 137 (x0 :: x1 :: x2 :: x3 :: some (.int v) :: L) S h = Run 145 139 (x0 :: x1 :: x2 :: x3 :: some (.int v) :: L) (.int v :: S) h := Rg rfl
set_option maxRecDepth 100000 in
theorem e145_139 {L : Lo} {S : List Value} {h : Hp} {x z : Int32} : Run 145 139 L (.int z :: .int x :: S) h = if x = z then Run 145 142 L S h else Run 145 146 L S h := RbrN (c := cnd .ne x z = true) (off := 7) rfl rfl cnd_ne
set_option maxRecDepth 100000 in
theorem e145_142 {L : Lo} {S : List Value} {h : Hp} : Run 145 142 L S h = Run 145 143 L (.int 1 :: S) h := Rg rfl
set_option maxRecDepth 100000 in
theorem e145_143 {L : Lo} {S : List Value} {h : Hp} : Run 145 143 L S h = Run 145 147 L S h := Rg rfl
set_option maxRecDepth 100000 in
theorem e145_146 {L : Lo} {S : List Value} {h : Hp} : Run 145 146 L S h = Run 145 147 L (.int 0 :: S) h := Rg rfl
set_option maxRecDepth 100000 in
theorem e145_147 {L : Lo} {S : List Value} {h : Hp} {x z : Int32} : Run 145 147 L (.int z :: .int x :: S) h = if x = z then Run 145 150 L S h else Run 145 233 L S h := RbrN (c := cnd .ne x z = true) (off := 86) rfl rfl cnd_ne
set_option maxRecDepth 100000 in
theorem e145_150 {L : Lo} {S : List Value} {h : Hp} {v : Nat} : Run 145 150 (some (.ref v) :: L) S h = Run 145 151 (some (.ref v) :: L) (.ref v :: S) h := Rg rfl
set_option maxRecDepth 100000 in
theorem e145_151 {L : Lo} {S : List Value} {h : Hp} {x0 x1 x2 : Option Value} {v : Int32} : Run 145 151 (x0 :: x1 :: x2 :: some (.int v) :: L) S h = Run 145 152 (x0 :: x1 :: x2 :: some (.int v) :: L) (.int v :: S) h := Rg rfl
set_option maxRecDepth 100000 in
theorem e145_152 {L : Lo} {S : List Value} {h : Hp} {x0 x1 x2 x3 x4 : Option Value} {v : Int32} : Run 145 152 (x0 :: x1 :: x2 :: x3 :: x4 :: some (.int v) :: L) S h = Run 145 154 (x0 :: x1 :: x2 :: x3 :: x4 :: some (.int v) :: L) (.int v :: S) h := Rg rfl
set_option maxRecDepth 100000 in
theorem e145_154 {L : Lo} {h : Hp} {a2 : Int32} {a1 : Int32} {a0 : Nat} : Run 145 154 L [.int a2, .int a1, .ref a0] h = (Run 128 0 [some (.ref a0), some (.int a1), some (.int a2), none] [] h).bind fun o => aft 145 154 157 L [] o := Rc (c := 128) (As := [.ref a0, .int a1, .int a2]) (S' := []) (pc' := 157) rfl
set_option maxRecDepth 100000 in
theorem e145_157 {L : Lo} {S : List Value} {h : Hp} {v : Nat} : Run 145 157 (some (.ref v) :: L) S h = Run 145 158 (some (.ref v) :: L) (.ref v :: S) h := Rg rfl
set_option maxRecDepth 100000 in
theorem e145_158 {L : Lo} {S : List Value} {h : Hp} {x0 x1 x2 : Option Value} {v : Int32} : Run 145 158 (x0 :: x1 :: x2 :: some (.int v) :: L) S h = Run 145 159 (x0 :: x1 :: x2 :: some (.int v) :: L) (.int v :: S) h := Rg rfl
set_option maxRecDepth 100000 in
theorem e145_159 {L : Lo} {S : List Value} {h : Hp} {x0 x1 x2 x3 : Option Value} {v : Int32} : Run 145 159 (x0 :: x1 :: x2 :: x3 :: some (.int v) :: L) S h = Run 145 161 (x0 :: x1 :: x2 :: x3 :: some (.int v) :: L) (.int v :: S) h := Rg rfl
set_option maxRecDepth 100000 in
theorem e145_161 {L : Lo} {h : Hp} {a3 : Int32} {a2 : Int32} {a1 : Nat} {a0 : Int32} : Run 145 161 L [.int a3, .int a2, .ref a1, .int a0] h = (Run 128 0 [some (.ref a1), some (.int a2), some (.int a3), none] [] h).bind fun o => aft 145 161 164 L [.int a0] o := Rc (c := 128) (As := [.ref a1, .int a2, .int a3]) (S' := [.int a0]) (pc' := 164) rfl
set_option maxRecDepth 100000 in
theorem e145_164 {L : Lo} {S : List Value} {h : Hp} {v : Nat} : Run 145 164 (some (.ref v) :: L) S h = Run 145 165 (some (.ref v) :: L) (.ref v :: S) h := Rg rfl
set_option maxRecDepth 100000 in
theorem e145_165 {L : Lo} {S : List Value} {h : Hp} {x0 x1 x2 x3 : Option Value} {v : Int32} : Run 145 165 (x0 :: x1 :: x2 :: x3 :: some (.int v) :: L) S h = Run 145 167 (x0 :: x1 :: x2 :: x3 :: some (.int v) :: L) (.int v :: S) h := Rg rfl
set_option maxRecDepth 100000 in
theorem e145_167 {L : Lo} {S : List Value} {h : Hp} {x0 x1 x2 x3 x4 : Option Value} {v : Int32} : Run 145 167 (x0 :: x1 :: x2 :: x3 :: x4 :: some (.int v) :: L) S h = Run 145 169 (x0 :: x1 :: x2 :: x3 :: x4 :: some (.int v) :: L) (.int v :: S) h := Rg rfl
set_option maxRecDepth 100000 in
theorem e145_169 {L : Lo} {h : Hp} {a4 : Int32} {a3 : Int32} {a2 : Nat} {a1 : Int32} {a0 : Int32} : Run 145 169 L [.int a4, .int a3, .ref a2, .int a1, .int a0] h = (Run 128 0 [some (.ref a2), some (.int a3), some (.int a4), none] [] h).bind fun o => aft 145 169 172 L [.int a1, .int a0] o := Rc (c := 128) (As := [.ref a2, .int a3, .int a4]) (S' := [.int a1, .int a0]) (pc' := 172) rfl
set_option maxRecDepth 100000 in
theorem e145_172 {L : Lo} {S : List Value} {h : Hp} {x z : Int32} : Run 145 172 L (.int z :: .int x :: S) h = Run 145 173 L (.int (x + z) :: S) h := Rg rfl
set_option maxRecDepth 100000 in
theorem e145_173 {L : Lo} {S : List Value} {h : Hp} {x z : Int32} : Run 145 173 L (.int z :: .int x :: S) h = if z < x then Run 145 233 L S h else Run 145 176 L S h := Rbr (c := cnd .gt x z = true) (off := 60) rfl rfl cnd_gt
set_option maxRecDepth 100000 in
theorem e145_176 {L : Lo} {S : List Value} {h : Hp} {x0 x1 x2 x3 x4 x5 : Option Value} {v : Int32} : Run 145 176 (x0 :: x1 :: x2 :: x3 :: x4 :: x5 :: some (.int v) :: L) S h = Run 145 178 (x0 :: x1 :: x2 :: x3 :: x4 :: x5 :: some (.int v) :: L) (.int v :: S) h := Rg rfl
set_option maxRecDepth 100000 in
theorem e145_178 {L : Lo} {S : List Value} {h : Hp} : Run 145 178 L S h = Run 145 179 L (.int (-1) :: S) h := Rg rfl
set_option maxRecDepth 100000 in
theorem e145_179 {L : Lo} {S : List Value} {h : Hp} {x z : Int32} : Run 145 179 L (.int z :: .int x :: S) h = if x = z then Run 145 182 L S h else Run 145 186 L S h := RbrN (c := cnd .ne x z = true) (off := 7) rfl rfl cnd_ne
set_option maxRecDepth 100000 in
theorem e145_182 {L : Lo} {S : List Value} {h : Hp} : Run 145 182 L S h = Run 145 183 L (.int 1 :: S) h := Rg rfl
set_option maxRecDepth 100000 in
theorem e145_183 {L : Lo} {S : List Value} {h : Hp} : Run 145 183 L S h = Run 145 187 L S h := Rg rfl
set_option maxRecDepth 100000 in
theorem e145_186 {L : Lo} {S : List Value} {h : Hp} : Run 145 186 L S h = Run 145 187 L (.int 0 :: S) h := Rg rfl
set_option maxRecDepth 100000 in
theorem e145_187 {L : Lo} {S : List Value} {h : Hp} {x0 x1 x2 : Option Value} {v : Int32} : Run 145 187 (x0 :: x1 :: x2 :: some (.int v) :: L) S h = Run 145 188 (x0 :: x1 :: x2 :: some (.int v) :: L) (.int v :: S) h := Rg rfl
set_option maxRecDepth 100000 in
theorem e145_188 {L : Lo} {S : List Value} {h : Hp} {x0 x1 x2 x3 : Option Value} {v : Int32} : Run 145 188 (x0 :: x1 :: x2 :: x3 :: some (.int v) :: L) S h = Run 145 190 (x0 :: x1 :: x2 :: x3 :: some (.int v) :: L) (.int v :: S) h := Rg rfl
set_option maxRecDepth 100000 in
theorem e145_190 {L : Lo} {S : List Value} {h : Hp} {x z : Int32} : Run 145 190 L (.int z :: .int x :: S) h = if x = z then Run 145 193 L S h else Run 145 197 L S h := RbrN (c := cnd .ne x z = true) (off := 7) rfl rfl cnd_ne
set_option maxRecDepth 100000 in
theorem e145_193 {L : Lo} {S : List Value} {h : Hp} : Run 145 193 L S h = Run 145 194 L (.int 1 :: S) h := Rg rfl
set_option maxRecDepth 100000 in
theorem e145_194 {L : Lo} {S : List Value} {h : Hp} : Run 145 194 L S h = Run 145 198 L S h := Rg rfl
set_option maxRecDepth 100000 in
theorem e145_197 {L : Lo} {S : List Value} {h : Hp} : Run 145 197 L S h = Run 145 198 L (.int 0 :: S) h := Rg rfl
set_option maxRecDepth 100000 in
theorem e145_198 {L : Lo} {S : List Value} {h : Hp} {x z : Int32} : Run 145 198 L (.int z :: .int x :: S) h = if x = z then Run 145 201 L S h else Run 145 233 L S h := RbrN (c := cnd .ne x z = true) (off := 35) rfl rfl cnd_ne
set_option maxRecDepth 100000 in
theorem e145_201 {L : Lo} {S : List Value} {h : Hp} {x0 x1 x2 x3 x4 x5 : Option Value} {v : Int32} : Run 145 201 (x0 :: x1 :: x2 :: x3 :: x4 :: x5 :: some (.int v) :: L) S h = Run 145 203 (x0 :: x1 :: x2 :: x3 :: x4 :: x5 :: some (.int v) :: L) (.int v :: S) h := Rg rfl
set_option maxRecDepth 100000 in
theorem e145_203 {L : Lo} {S : List Value} {h : Hp} : Run 145 203 L S h = Run 145 205 L (.int 16 :: S) h := Rg rfl
set_option maxRecDepth 100000 in
theorem e145_205 {L : Lo} {S : List Value} {h : Hp} {x z : Int32} : Run 145 205 L (.int z :: .int x :: S) h = if z ≤ x then Run 145 233 L S h else Run 145 208 L S h := Rbr (c := cnd .ge x z = true) (off := 28) rfl rfl cnd_ge
set_option maxRecDepth 100000 in
theorem e145_208 {L : Lo} {S : List Value} {h : Hp} {x0 x1 x2 x3 x4 x5 : Option Value} {v : Int32} : Run 145 208 (x0 :: x1 :: x2 :: x3 :: x4 :: x5 :: some (.int v) :: L) S h = Run 145 210 (x0 :: x1 :: x2 :: x3 :: x4 :: x5 :: some (.int v) :: L) (.int v :: S) h := Rg rfl
set_option maxRecDepth 100000 in
theorem e145_210 {L : Lo} {S : List Value} {h : Hp} : Run 145 210 L S h = Run 145 212 L (.int 6 :: S) h := Rg rfl
set_option maxRecDepth 100000 in
theorem e145_212 {L : Lo} {S : List Value} {h : Hp} {x z : Int32} : Run 145 212 L (.int z :: .int x :: S) h = if x < z then Run 145 222 L S h else Run 145 215 L S h := Rbr (c := cnd .lt x z = true) (off := 10) rfl rfl cnd_lt
set_option maxRecDepth 100000 in
theorem e145_215 {L : Lo} {S : List Value} {h : Hp} {x0 x1 x2 x3 x4 x5 : Option Value} {v : Int32} : Run 145 215 (x0 :: x1 :: x2 :: x3 :: x4 :: x5 :: some (.int v) :: L) S h = Run 145 217 (x0 :: x1 :: x2 :: x3 :: x4 :: x5 :: some (.int v) :: L) (.int v :: S) h := Rg rfl
set_option maxRecDepth 100000 in
theorem e145_217 {L : Lo} {S : List Value} {h : Hp} : Run 145 217 L S h = Run 145 219 L (.int 9 :: S) h := Rg rfl
set_option maxRecDepth 100000 in
theorem e145_219 {L : Lo} {S : List Value} {h : Hp} {x z : Int32} : Run 145 219 L (.int z :: .int x :: S) h = if x ≤ z then Run 145 233 L S h else Run 145 222 L S h := Rbr (c := cnd .le x z = true) (off := 14) rfl rfl cnd_le
set_option maxRecDepth 100000 in
theorem e145_222 {L : Lo} {S : List Value} {h : Hp} {x0 x1 x2 x3 x4 x5 x6 : Option Value} {v : Int32} : Run 145 222 (x0 :: x1 :: x2 :: x3 :: x4 :: x5 :: x6 :: some (.int v) :: L) S h = Run 145 224 (x0 :: x1 :: x2 :: x3 :: x4 :: x5 :: x6 :: some (.int v) :: L) (.int v :: S) h := Rg rfl
set_option maxRecDepth 100000 in
theorem e145_224 {L : Lo} {S : List Value} {h : Hp} {x0 x1 x2 x3 x4 x5 x6 x7 x8 : Option Value} {v : Int32} : Run 145 224 (x0 :: x1 :: x2 :: x3 :: x4 :: x5 :: x6 :: x7 :: x8 :: some (.int v) :: L) S h = Run 145 226 (x0 :: x1 :: x2 :: x3 :: x4 :: x5 :: x6 :: x7 :: x8 :: some (.int v) :: L) (.int v :: S) h := Rg rfl
set_option maxRecDepth 100000 in
theorem e145_226 {L : Lo} {S : List Value} {h : Hp} {x z : Int32} : Run 145 226 L (.int z :: .int x :: S) h = if x = z then Run 145 229 L S h else Run 145 233 L S h := RbrN (c := cnd .ne x z = true) (off := 7) rfl rfl cnd_ne
set_option maxRecDepth 100000 in
theorem e145_229 {L : Lo} {S : List Value} {h : Hp} : Run 145 229 L S h = Run 145 230 L (.int 1 :: S) h := Rg rfl
set_option maxRecDepth 100000 in
theorem e145_230 {L : Lo} {S : List Value} {h : Hp} : Run 145 230 L S h = Run 145 234 L S h := Rg rfl
set_option maxRecDepth 100000 in
theorem e145_233 {L : Lo} {S : List Value} {h : Hp} : Run 145 233 L S h = Run 145 234 L (.int 0 :: S) h := Rg rfl
set_option maxRecDepth 100000 in
theorem e145_234 {L : Lo} {h : Hp} {x : Int32} (hx : narrow .boolean (.int x) = .int x) : Run 145 234 L [.int x] h = some (.inl (some (.int x)), h) := Rd (if_pos hx)
set_option maxRecDepth 100000 in
theorem e146_0 {L : Lo} {S : List Value} {h : Hp} {v : Nat} : Run 146 0 (some (.ref v) :: L) S h = Run 146 1 (some (.ref v) :: L) (.ref v :: S) h := Rg rfl
set_option maxRecDepth 100000 in
theorem e146_1 {L : Lo} {h : Hp} {a0 : Nat} (hO : isO h a0 8 = true) : Run 146 1 L [.ref a0] h = (Run 108 0 [some (.ref a0), none, none, none, none] [] h).bind fun o => aft 146 1 4 L [] o := Rcv (c := 108) (As := []) (S' := []) (pc' := 4) 8 rfl hO
set_option maxRecDepth 100000 in
theorem e146_4 {L : Lo} {S : List Value} {h : Hp} {x0 x1 : Option Value} {y w : Option Value} {v : Int64} : Run 146 4 (x0 :: x1 :: y :: w :: L) (.long v :: S) h = Run 146 5 (x0 :: ck x1 :: some (.long v) :: none :: L) S h := Rg rfl
set_option maxRecDepth 100000 in
theorem e146_5 {L : Lo} {S : List Value} {h : Hp} {v : Nat} : Run 146 5 (some (.ref v) :: L) S h = Run 146 6 (some (.ref v) :: L) (.ref v :: S) h := Rg rfl
set_option maxRecDepth 100000 in
theorem e146_6 {L : Lo} {S : List Value} {h : Hp} : Run 146 6 L S h = Run 146 7 L (.int 0 :: S) h := Rg rfl
set_option maxRecDepth 100000 in
theorem e146_7 {L : Lo} {h : Hp} {a1 : Int32} {a0 : Nat} : Run 146 7 L [.int a1, .ref a0] h = (Run 125 0 [some (.ref a0), some (.int a1), none] [] h).bind fun o => aft 146 7 10 L [] o := Rc (c := 125) (As := [.ref a0, .int a1]) (S' := []) (pc' := 10) rfl
set_option maxRecDepth 100000 in
theorem e146_10 {L : Lo} {S : List Value} {h : Hp} {v : Nat} : Run 146 10 (some (.ref v) :: L) S h = Run 146 11 (some (.ref v) :: L) (.ref v :: S) h := Rg rfl
set_option maxRecDepth 100000 in
theorem e146_11 {L : Lo} {S : List Value} {h : Hp} : Run 146 11 L S h = Run 146 12 L (.int 1 :: S) h := Rg rfl
set_option maxRecDepth 100000 in
theorem e146_12 {L : Lo} {h : Hp} {a2 : Int32} {a1 : Nat} {a0 : Int32} : Run 146 12 L [.int a2, .ref a1, .int a0] h = (Run 125 0 [some (.ref a1), some (.int a2), none] [] h).bind fun o => aft 146 12 15 L [.int a0] o := Rc (c := 125) (As := [.ref a1, .int a2]) (S' := [.int a0]) (pc' := 15) rfl
set_option maxRecDepth 100000 in
theorem e146_15 {L : Lo} {S : List Value} {h : Hp} {x z : Int32} : Run 146 15 L (.int z :: .int x :: S) h = Run 146 16 L (.int (x * z) :: S) h := Rg rfl
set_option maxRecDepth 100000 in
theorem e146_16 {L : Lo} {S : List Value} {h : Hp} {x0 x1 x2 x3 : Option Value} {y : Option Value} {v : Int32} : Run 146 16 (x0 :: x1 :: x2 :: x3 :: y :: L) (.int v :: S) h = Run 146 18 (x0 :: x1 :: x2 :: ck x3 :: some (.int v) :: L) S h := Rg rfl
set_option maxRecDepth 100000 in
theorem e146_18 {L : Lo} {S : List Value} {h : Hp} {v : Nat} : Run 146 18 (some (.ref v) :: L) S h = Run 146 19 (some (.ref v) :: L) (.ref v :: S) h := Rg rfl
set_option maxRecDepth 100000 in
theorem e146_19 {L : Lo} {S : List Value} {h : Hp} {x0 : Option Value} {v : Int32} : Run 146 19 (x0 :: some (.int v) :: L) S h = Run 146 20 (x0 :: some (.int v) :: L) (.int v :: S) h := Rg rfl
set_option maxRecDepth 100000 in
theorem e146_20 {L : Lo} {S : List Value} {h : Hp} : Run 146 20 L S h = Run 146 22 L (.int 8 :: S) h := Rg rfl
set_option maxRecDepth 100000 in
theorem e146_22 {L : Lo} {h : Hp} {a2 : Int32} {a1 : Int32} {a0 : Nat} : Run 146 22 L [.int a2, .int a1, .ref a0] h = (Run 126 0 [some (.ref a0), some (.int a1), some (.int a2), none] [] h).bind fun o => aft 146 22 25 L [] o := Rc (c := 126) (As := [.ref a0, .int a1, .int a2]) (S' := []) (pc' := 25) rfl
set_option maxRecDepth 100000 in
theorem e146_25 {L : Lo} {S : List Value} {h : Hp} {x0 x1 x2 x3 x4 : Option Value} {y : Option Value} {v : Int32} : Run 146 25 (x0 :: x1 :: x2 :: x3 :: x4 :: y :: L) (.int v :: S) h = Run 146 27 (x0 :: x1 :: x2 :: x3 :: ck x4 :: some (.int v) :: L) S h := Rg rfl
set_option maxRecDepth 100000 in
theorem e146_27 {L : Lo} {S : List Value} {h : Hp} : Run 146 27 L S h = Run 146 28 L (.int 0 :: S) h := Rg rfl
set_option maxRecDepth 100000 in
theorem e146_28 {L : Lo} {S : List Value} {h : Hp} {x0 x1 x2 x3 x4 x5 : Option Value} {y : Option Value} {v : Int32} : Run 146 28 (x0 :: x1 :: x2 :: x3 :: x4 :: x5 :: y :: L) (.int v :: S) h = Run 146 30 (x0 :: x1 :: x2 :: x3 :: x4 :: ck x5 :: some (.int v) :: L) S h := Rg rfl
set_option maxRecDepth 100000 in
theorem e146_30 {L : Lo} {S : List Value} {h : Hp} : Run 146 30 L S h = Run 146 31 L (.int 0 :: S) h := Rg rfl
set_option maxRecDepth 100000 in
theorem e146_31 {L : Lo} {S : List Value} {h : Hp} {x0 x1 x2 x3 x4 x5 x6 : Option Value} {y : Option Value} {v : Int32} : Run 146 31 (x0 :: x1 :: x2 :: x3 :: x4 :: x5 :: x6 :: y :: L) (.int v :: S) h = Run 146 33 (x0 :: x1 :: x2 :: x3 :: x4 :: x5 :: ck x6 :: some (.int v) :: L) S h := Rg rfl
set_option maxRecDepth 100000 in
theorem e146_33 {L : Lo} {S : List Value} {h : Hp} {x0 x1 x2 x3 x4 x5 x6 : Option Value} {v : Int32} : Run 146 33 (x0 :: x1 :: x2 :: x3 :: x4 :: x5 :: x6 :: some (.int v) :: L) S h = Run 146 35 (x0 :: x1 :: x2 :: x3 :: x4 :: x5 :: x6 :: some (.int v) :: L) (.int v :: S) h := Rg rfl
set_option maxRecDepth 100000 in
theorem e146_35 {L : Lo} {S : List Value} {h : Hp} {x0 x1 x2 x3 : Option Value} {v : Int32} : Run 146 35 (x0 :: x1 :: x2 :: x3 :: some (.int v) :: L) S h = Run 146 37 (x0 :: x1 :: x2 :: x3 :: some (.int v) :: L) (.int v :: S) h := Rg rfl
set_option maxRecDepth 100000 in
theorem e146_37 {L : Lo} {S : List Value} {h : Hp} {x z : Int32} : Run 146 37 L (.int z :: .int x :: S) h = if z ≤ x then Run 146 132 L S h else Run 146 40 L S h := Rbr (c := cnd .ge x z = true) (off := 95) rfl rfl cnd_ge
set_option maxRecDepth 100000 in
theorem e146_40 {L : Lo} {S : List Value} {h : Hp} {v : Nat} : Run 146 40 (some (.ref v) :: L) S h = Run 146 41 (some (.ref v) :: L) (.ref v :: S) h := Rg rfl
set_option maxRecDepth 100000 in
theorem e146_41 {L : Lo} {S : List Value} {h : Hp} {x0 : Option Value} {v : Int32} : Run 146 41 (x0 :: some (.int v) :: L) S h = Run 146 42 (x0 :: some (.int v) :: L) (.int v :: S) h := Rg rfl
set_option maxRecDepth 100000 in
theorem e146_42 {L : Lo} {S : List Value} {h : Hp} {x0 x1 x2 x3 x4 x5 x6 : Option Value} {v : Int32} : Run 146 42 (x0 :: x1 :: x2 :: x3 :: x4 :: x5 :: x6 :: some (.int v) :: L) S h = Run 146 44 (x0 :: x1 :: x2 :: x3 :: x4 :: x5 :: x6 :: some (.int v) :: L) (.int v :: S) h := Rg rfl
set_option maxRecDepth 100000 in
theorem e146_44 {L : Lo} {h : Hp} {a2 : Int32} {a1 : Int32} {a0 : Nat} : Run 146 44 L [.int a2, .int a1, .ref a0] h = (Run 138 0 [some (.ref a0), some (.int a1), some (.int a2), none] [] h).bind fun o => aft 146 44 47 L [] o := Rc (c := 138) (As := [.ref a0, .int a1, .int a2]) (S' := []) (pc' := 47) rfl
set_option maxRecDepth 100000 in
theorem e146_47 {L : Lo} {S : List Value} {h : Hp} {x0 x1 x2 x3 x4 x5 x6 x7 : Option Value} {y : Option Value} {v : Int32} : Run 146 47 (x0 :: x1 :: x2 :: x3 :: x4 :: x5 :: x6 :: x7 :: y :: L) (.int v :: S) h = Run 146 49 (x0 :: x1 :: x2 :: x3 :: x4 :: x5 :: x6 :: ck x7 :: some (.int v) :: L) S h := Rg rfl
set_option maxRecDepth 100000 in
theorem e146_49 {L : Lo} {S : List Value} {h : Hp} {x0 x1 x2 x3 x4 x5 : Option Value} {v : Int32} : Run 146 49 (x0 :: x1 :: x2 :: x3 :: x4 :: x5 :: some (.int v) :: L) S h = Run 146 51 (x0 :: x1 :: x2 :: x3 :: x4 :: x5 :: some (.int v) :: L) (.int v :: S) h := Rg rfl
set_option maxRecDepth 100000 in
theorem e146_51 {L : Lo} {S : List Value} {h : Hp} {x0 x1 x2 x3 x4 x5 x6 x7 : Option Value} {v : Int32} : Run 146 51 (x0 :: x1 :: x2 :: x3 :: x4 :: x5 :: x6 :: x7 :: some (.int v) :: L) S h = Run 146 53 (x0 :: x1 :: x2 :: x3 :: x4 :: x5 :: x6 :: x7 :: some (.int v) :: L) (.int v :: S) h := Rg rfl
set_option maxRecDepth 100000 in
theorem e146_53 {L : Lo} {S : List Value} {h : Hp} : Run 146 53 L S h = Run 146 54 L (.int (-1) :: S) h := Rg rfl
set_option maxRecDepth 100000 in
theorem e146_54 {L : Lo} {S : List Value} {h : Hp} {x z : Int32} : Run 146 54 L (.int z :: .int x :: S) h = if x = z then Run 146 61 L S h else Run 146 57 L S h := Rbr (c := cnd .eq x z = true) (off := 7) rfl rfl cnd_eq
set_option maxRecDepth 100000 in
theorem e146_57 {L : Lo} {S : List Value} {h : Hp} : Run 146 57 L S h = Run 146 58 L (.int 1 :: S) h := Rg rfl
set_option maxRecDepth 100000 in
theorem e146_58 {L : Lo} {S : List Value} {h : Hp} : Run 146 58 L S h = Run 146 62 L S h := Rg rfl
set_option maxRecDepth 100000 in
theorem e146_61 {L : Lo} {S : List Value} {h : Hp} : Run 146 61 L S h = Run 146 62 L (.int 0 :: S) h := Rg rfl
set_option maxRecDepth 100000 in
theorem e146_62 {L : Lo} {S : List Value} {h : Hp} {x z : Int32} : Run 146 62 L (.int z :: .int x :: S) h = Run 146 63 L (.int (x + z) :: S) h := Rg rfl
set_option maxRecDepth 100000 in
theorem e146_63 {L : Lo} {S : List Value} {h : Hp} {x0 x1 x2 x3 x4 x5 : Option Value} {y : Option Value} {v : Int32} : Run 146 63 (x0 :: x1 :: x2 :: x3 :: x4 :: x5 :: y :: L) (.int v :: S) h = Run 146 65 (x0 :: x1 :: x2 :: x3 :: x4 :: ck x5 :: some (.int v) :: L) S h := Rg rfl
set_option maxRecDepth 100000 in
theorem e146_65 {L : Lo} {S : List Value} {h : Hp} {x0 x1 x2 x3 x4 x5 x6 x7 : Option Value} {v : Int32} : Run 146 65 (x0 :: x1 :: x2 :: x3 :: x4 :: x5 :: x6 :: x7 :: some (.int v) :: L) S h = Run 146 67 (x0 :: x1 :: x2 :: x3 :: x4 :: x5 :: x6 :: x7 :: some (.int v) :: L) (.int v :: S) h := Rg rfl
set_option maxRecDepth 100000 in
theorem e146_67 {L : Lo} {S : List Value} {h : Hp} : Run 146 67 L S h = Run 146 68 L (.int (-1) :: S) h := Rg rfl
set_option maxRecDepth 100000 in
theorem e146_68 {L : Lo} {S : List Value} {h : Hp} {x z : Int32} : Run 146 68 L (.int z :: .int x :: S) h = if x < z then Run 146 124 L S h else Run 146 71 L S h := Rbr (c := cnd .lt x z = true) (off := 56) rfl rfl cnd_lt
set_option maxRecDepth 100000 in
theorem e146_71 {L : Lo} {S : List Value} {h : Hp} {x0 x1 x2 x3 x4 x5 x6 x7 : Option Value} {v : Int32} : Run 146 71 (x0 :: x1 :: x2 :: x3 :: x4 :: x5 :: x6 :: x7 :: some (.int v) :: L) S h = Run 146 73 (x0 :: x1 :: x2 :: x3 :: x4 :: x5 :: x6 :: x7 :: some (.int v) :: L) (.int v :: S) h := Rg rfl
set_option maxRecDepth 100000 in
theorem e146_73 {L : Lo} {S : List Value} {h : Hp} {x0 x1 x2 x3 x4 : Option Value} {v : Int32} : Run 146 73 (x0 :: x1 :: x2 :: x3 :: x4 :: some (.int v) :: L) S h = Run 146 75 (x0 :: x1 :: x2 :: x3 :: x4 :: some (.int v) :: L) (.int v :: S) h := Rg rfl
set_option maxRecDepth 100000 in
theorem e146_75 {L : Lo} {S : List Value} {h : Hp} {x z : Int32} : Run 146 75 L (.int z :: .int x :: S) h = if z < x then Run 146 124 L S h else Run 146 78 L S h := Rbr (c := cnd .gt x z = true) (off := 49) rfl rfl cnd_gt
set_option maxRecDepth 100000 in
theorem e146_78 {L : Lo} {S : List Value} {h : Hp} {x0 x1 x2 x3 x4 x5 x6 x7 : Option Value} {v : Int32} : Run 146 78 (x0 :: x1 :: x2 :: x3 :: x4 :: x5 :: x6 :: x7 :: some (.int v) :: L) S h = Run 146 80 (x0 :: x1 :: x2 :: x3 :: x4 :: x5 :: x6 :: x7 :: some (.int v) :: L) (.int v :: S) h := Rg rfl
set_option maxRecDepth 100000 in
theorem e146_80 {L : Lo} {S : List Value} {h : Hp} : Run 146 80 L S h = Run 146 81 L (.int (-1) :: S) h := Rg rfl
set_option maxRecDepth 100000 in
theorem e146_81 {L : Lo} {S : List Value} {h : Hp} {x z : Int32} : Run 146 81 L (.int z :: .int x :: S) h = if x = z then Run 146 126 L S h else Run 146 84 L S h := Rbr (c := cnd .eq x z = true) (off := 45) rfl rfl cnd_eq
set_option maxRecDepth 100000 in
theorem e146_84 {L : Lo} {S : List Value} {h : Hp} {v : Nat} : Run 146 84 (some (.ref v) :: L) S h = Run 146 85 (some (.ref v) :: L) (.ref v :: S) h := Rg rfl
set_option maxRecDepth 100000 in
theorem e146_85 {L : Lo} {S : List Value} {h : Hp} {v : Nat} : Run 146 85 (some (.ref v) :: L) S h = Run 146 86 (some (.ref v) :: L) (.ref v :: S) h := Rg rfl
set_option maxRecDepth 100000 in
theorem e146_86 {L : Lo} {S : List Value} {h : Hp} {x0 : Option Value} {v : Int32} : Run 146 86 (x0 :: some (.int v) :: L) S h = Run 146 87 (x0 :: some (.int v) :: L) (.int v :: S) h := Rg rfl
set_option maxRecDepth 100000 in
theorem e146_87 {L : Lo} {S : List Value} {h : Hp} : Run 146 87 L S h = Run 146 88 L (.int 1 :: S) h := Rg rfl
set_option maxRecDepth 100000 in
theorem e146_88 {L : Lo} {h : Hp} {a3 : Int32} {a2 : Int32} {a1 : Nat} {a0 : Nat} : Run 146 88 L [.int a3, .int a2, .ref a1, .ref a0] h = (Run 126 0 [some (.ref a1), some (.int a2), some (.int a3), none] [] h).bind fun o => aft 146 88 91 L [.ref a0] o := Rc (c := 126) (As := [.ref a1, .int a2, .int a3]) (S' := [.ref a0]) (pc' := 91) rfl
set_option maxRecDepth 100000 in
theorem e146_91 {L : Lo} {S : List Value} {h : Hp} {x0 x1 x2 x3 x4 x5 x6 : Option Value} {v : Int32} : Run 146 91 (x0 :: x1 :: x2 :: x3 :: x4 :: x5 :: x6 :: some (.int v) :: L) S h = Run 146 93 (x0 :: x1 :: x2 :: x3 :: x4 :: x5 :: x6 :: some (.int v) :: L) (.int v :: S) h := Rg rfl
set_option maxRecDepth 100000 in
theorem e146_93 {L : Lo} {h : Hp} {a2 : Int32} {a1 : Int32} {a0 : Nat} : Run 146 93 L [.int a2, .int a1, .ref a0] h = (Run 128 0 [some (.ref a0), some (.int a1), some (.int a2), none] [] h).bind fun o => aft 146 93 96 L [] o := Rc (c := 128) (As := [.ref a0, .int a1, .int a2]) (S' := []) (pc' := 96) rfl
set_option maxRecDepth 100000 in
theorem e146_96 {L : Lo} {S : List Value} {h : Hp} {x0 x1 x2 x3 x4 : Option Value} {v : Int32} : Run 146 96 (x0 :: x1 :: x2 :: x3 :: x4 :: some (.int v) :: L) S h = Run 146 98 (x0 :: x1 :: x2 :: x3 :: x4 :: some (.int v) :: L) (.int v :: S) h := Rg rfl
set_option maxRecDepth 100000 in
theorem e146_98 {L : Lo} {S : List Value} {h : Hp} {x0 x1 x2 x3 x4 x5 x6 x7 : Option Value} {v : Int32} : Run 146 98 (x0 :: x1 :: x2 :: x3 :: x4 :: x5 :: x6 :: x7 :: some (.int v) :: L) S h = Run 146 100 (x0 :: x1 :: x2 :: x3 :: x4 :: x5 :: x6 :: x7 :: some (.int v) :: L) (.int v :: S) h := Rg rfl
set_option maxRecDepth 100000 in
theorem e146_100 {L : Lo} {S : List Value} {h : Hp} {x z : Int32} : Run 146 100 L (.int z :: .int x :: S) h = Run 146 101 L (.int (x - z) :: S) h := Rg rfl
set_option maxRecDepth 100000 in
theorem e146_101 {L : Lo} {S : List Value} {h : Hp} {x z : Int32} : Run 146 101 L (.int z :: .int x :: S) h = if z < x then Run 146 124 L S h else Run 146 104 L S h := Rbr (c := cnd .gt x z = true) (off := 23) rfl rfl cnd_gt
set_option maxRecDepth 100000 in
theorem e146_104 {L : Lo} {S : List Value} {h : Hp} {v : Nat} : Run 146 104 (some (.ref v) :: L) S h = Run 146 105 (some (.ref v) :: L) (.ref v :: S) h := Rg rfl
set_option maxRecDepth 100000 in
theorem e146_105 {L : Lo} {S : List Value} {h : Hp} {x0 x1 x2 x3 x4 x5 x6 : Option Value} {v : Int32} : Run 146 105 (x0 :: x1 :: x2 :: x3 :: x4 :: x5 :: x6 :: some (.int v) :: L) S h = Run 146 107 (x0 :: x1 :: x2 :: x3 :: x4 :: x5 :: x6 :: some (.int v) :: L) (.int v :: S) h := Rg rfl
set_option maxRecDepth 100000 in
theorem e146_107 {L : Lo} {h : Hp} {a1 : Int32} {a0 : Nat} : Run 146 107 L [.int a1, .ref a0] h = (Run 127 0 [some (.ref a0), some (.int a1), none] [] h).bind fun o => aft 146 107 110 L [] o := Rc (c := 127) (As := [.ref a0, .int a1]) (S' := []) (pc' := 110) rfl
set_option maxRecDepth 100000 in
theorem e146_110 {L : Lo} {S : List Value} {h : Hp} : Run 146 110 L S h = Run 146 111 L (.int (-1) :: S) h := Rg rfl
set_option maxRecDepth 100000 in
theorem e146_111 {L : Lo} {S : List Value} {h : Hp} {x z : Int32} : Run 146 111 L (.int z :: .int x :: S) h = if x = z then Run 146 126 L S h else Run 146 114 L S h := Rbr (c := cnd .eq x z = true) (off := 15) rfl rfl cnd_eq
set_option maxRecDepth 100000 in
theorem e146_114 {L : Lo} {S : List Value} {h : Hp} {v : Nat} : Run 146 114 (some (.ref v) :: L) S h = Run 146 115 (some (.ref v) :: L) (.ref v :: S) h := Rg rfl
set_option maxRecDepth 100000 in
theorem e146_115 {L : Lo} {S : List Value} {h : Hp} {x0 x1 x2 x3 x4 x5 x6 : Option Value} {v : Int32} : Run 146 115 (x0 :: x1 :: x2 :: x3 :: x4 :: x5 :: x6 :: some (.int v) :: L) S h = Run 146 117 (x0 :: x1 :: x2 :: x3 :: x4 :: x5 :: x6 :: some (.int v) :: L) (.int v :: S) h := Rg rfl
set_option maxRecDepth 100000 in
theorem e146_117 {L : Lo} {h : Hp} {a1 : Int32} {a0 : Nat} : Run 146 117 L [.int a1, .ref a0] h = (Run 127 0 [some (.ref a0), some (.int a1), none] [] h).bind fun o => aft 146 117 120 L [] o := Rc (c := 127) (As := [.ref a0, .int a1]) (S' := []) (pc' := 120) rfl
set_option maxRecDepth 100000 in
theorem e146_120 {L : Lo} {S : List Value} {h : Hp} {x0 : Option Value} {v : Int32} : Run 146 120 (x0 :: some (.int v) :: L) S h = Run 146 121 (x0 :: some (.int v) :: L) (.int v :: S) h := Rg rfl
set_option maxRecDepth 100000 in
theorem e146_121 {L : Lo} {S : List Value} {h : Hp} {x z : Int32} : Run 146 121 L (.int z :: .int x :: S) h = if x = z then Run 146 126 L S h else Run 146 124 L S h := Rbr (c := cnd .eq x z = true) (off := 5) rfl rfl cnd_eq
set_option maxRecDepth 100000 in
theorem e146_124 {L : Lo} {S : List Value} {h : Hp} : Run 146 124 L S h = Run 146 125 L (.int 0 :: S) h := Rg rfl
set_option maxRecDepth 100000 in
theorem e146_125 {L : Lo} {h : Hp} {x : Int32} (hx : narrow .boolean (.int x) = .int x) : Run 146 125 L [.int x] h = some (.inl (some (.int x)), h) := Rd (if_pos hx)
set_option maxRecDepth 100000 in
theorem e146_126 {L : Lo} {S : List Value} {h : Hp} {x0 x1 x2 x3 x4 x5 x6 : Option Value} {v : Int32} : Run 146 126 (x0 :: x1 :: x2 :: x3 :: x4 :: x5 :: x6 :: some (.int v) :: L) S h = Run 146 129 (x0 :: x1 :: x2 :: x3 :: x4 :: x5 :: x6 :: some (.int (v + 1)) :: L) S h := Rg rfl
set_option maxRecDepth 100000 in
theorem e146_129 {L : Lo} {S : List Value} {h : Hp} : Run 146 129 L S h = Run 146 33 L S h := Rg rfl
set_option maxRecDepth 100000 in
theorem e146_132 {L : Lo} {S : List Value} {h : Hp} {v : Nat} : Run 146 132 (some (.ref v) :: L) S h = Run 146 133 (some (.ref v) :: L) (.ref v :: S) h := Rg rfl
set_option maxRecDepth 100000 in
theorem e146_133 {L : Lo} {S : List Value} {h : Hp} {x0 : Option Value} {v : Int32} : Run 146 133 (x0 :: some (.int v) :: L) S h = Run 146 134 (x0 :: some (.int v) :: L) (.int v :: S) h := Rg rfl
set_option maxRecDepth 100000 in
theorem e146_134 {L : Lo} {S : List Value} {h : Hp} : Run 146 134 L S h = Run 146 135 L (.int 3 :: S) h := Rg rfl
set_option maxRecDepth 100000 in
theorem e146_135 {L : Lo} {h : Hp} {a2 : Int32} {a1 : Int32} {a0 : Nat} : Run 146 135 L [.int a2, .int a1, .ref a0] h = (Run 126 0 [some (.ref a0), some (.int a1), some (.int a2), none] [] h).bind fun o => aft 146 135 138 L [] o := Rc (c := 126) (As := [.ref a0, .int a1, .int a2]) (S' := []) (pc' := 138) rfl
set_option maxRecDepth 100000 in
theorem e146_138 {L : Lo} {S : List Value} {h : Hp} {x : Int32} : Run 146 138 L (.int x :: S) h = if x ≤ 0 then Run 146 145 L S h else Run 146 141 L S h := Rbr (c := cnd .le x 0 = true) (off := 7) rfl rfl cnd_le
set_option maxRecDepth 100000 in
theorem e146_141 {L : Lo} {S : List Value} {h : Hp} : Run 146 141 L S h = Run 146 142 L (.int 1 :: S) h := Rg rfl
set_option maxRecDepth 100000 in
theorem e146_142 {L : Lo} {S : List Value} {h : Hp} : Run 146 142 L S h = Run 146 146 L S h := Rg rfl
set_option maxRecDepth 100000 in
theorem e146_145 {L : Lo} {S : List Value} {h : Hp} : Run 146 145 L S h = Run 146 146 L (.int 0 :: S) h := Rg rfl
set_option maxRecDepth 100000 in
theorem e146_146 {L : Lo} {S : List Value} {h : Hp} {x0 x1 x2 x3 x4 x5 x6 : Option Value} {y : Option Value} {v : Int32} : Run 146 146 (x0 :: x1 :: x2 :: x3 :: x4 :: x5 :: x6 :: y :: L) (.int v :: S) h = Run 146 148 (x0 :: x1 :: x2 :: x3 :: x4 :: x5 :: ck x6 :: some (.int v) :: L) S h := Rg rfl
set_option maxRecDepth 100000 in
theorem e146_148 {L : Lo} {S : List Value} {h : Hp} {x0 x1 x2 x3 x4 x5 : Option Value} {v : Int32} : Run 146 148 (x0 :: x1 :: x2 :: x3 :: x4 :: x5 :: some (.int v) :: L) S h = Run 146 150 (x0 :: x1 :: x2 :: x3 :: x4 :: x5 :: some (.int v) :: L) (.int v :: S) h := Rg rfl
set_option maxRecDepth 100000 in
theorem e146_150 {L : Lo} {S : List Value} {h : Hp} {v : Nat} : Run 146 150 (some (.ref v) :: L) S h = Run 146 151 (some (.ref v) :: L) (.ref v :: S) h := Rg rfl
set_option maxRecDepth 100000 in
theorem e146_151 {L : Lo} {S : List Value} {h : Hp} {x0 : Option Value} {v : Int32} : Run 146 151 (x0 :: some (.int v) :: L) S h = Run 146 152 (x0 :: some (.int v) :: L) (.int v :: S) h := Rg rfl
set_option maxRecDepth 100000 in
theorem e146_152 {L : Lo} {h : Hp} {a2 : Int32} {a1 : Nat} {a0 : Int32} : Run 146 152 L [.int a2, .ref a1, .int a0] h = (Run 137 0 [some (.ref a1), some (.int a2), none] [] h).bind fun o => aft 146 152 155 L [.int a0] o := Rc (c := 137) (As := [.ref a1, .int a2]) (S' := [.int a0]) (pc' := 155) rfl
set_option maxRecDepth 100000 in
theorem e146_155 {L : Lo} {S : List Value} {h : Hp} {x z : Int32} : Run 146 155 L (.int z :: .int x :: S) h = if x = z then Run 146 158 L S h else Run 146 194 L S h := RbrN (c := cnd .ne x z = true) (off := 39) rfl rfl cnd_ne
set_option maxRecDepth 100000 in
theorem e146_158 {L : Lo} {S : List Value} {h : Hp} {x0 x1 x2 x3 x4 x5 x6 : Option Value} {v : Int32} : Run 146 158 (x0 :: x1 :: x2 :: x3 :: x4 :: x5 :: x6 :: some (.int v) :: L) S h = Run 146 160 (x0 :: x1 :: x2 :: x3 :: x4 :: x5 :: x6 :: some (.int v) :: L) (.int v :: S) h := Rg rfl
set_option maxRecDepth 100000 in
theorem e146_160 {L : Lo} {S : List Value} {h : Hp} {x0 x1 x2 x3 x4 x5 : Option Value} {v : Int32} : Run 146 160 (x0 :: x1 :: x2 :: x3 :: x4 :: x5 :: some (.int v) :: L) S h = Run 146 162 (x0 :: x1 :: x2 :: x3 :: x4 :: x5 :: some (.int v) :: L) (.int v :: S) h := Rg rfl
set_option maxRecDepth 100000 in
theorem e146_162 {L : Lo} {S : List Value} {h : Hp} {x : Int32} : Run 146 162 L (.int x :: S) h = if x ≤ 0 then Run 146 169 L S h else Run 146 165 L S h := Rbr (c := cnd .le x 0 = true) (off := 7) rfl rfl cnd_le
set_option maxRecDepth 100000 in
theorem e146_165 {L : Lo} {S : List Value} {h : Hp} : Run 146 165 L S h = Run 146 166 L (.int 1 :: S) h := Rg rfl
set_option maxRecDepth 100000 in
theorem e146_166 {L : Lo} {S : List Value} {h : Hp} : Run 146 166 L S h = Run 146 170 L S h := Rg rfl
set_option maxRecDepth 100000 in
theorem e146_169 {L : Lo} {S : List Value} {h : Hp} : Run 146 169 L S h = Run 146 170 L (.int 0 :: S) h := Rg rfl
set_option maxRecDepth 100000 in
theorem e146_170 {L : Lo} {S : List Value} {h : Hp} {x z : Int32} : Run 146 170 L (.int z :: .int x :: S) h = if x = z then Run 146 173 L S h else Run 146 194 L S h := RbrN (c := cnd .ne x z = true) (off := 24) rfl rfl cnd_ne
set_option maxRecDepth 100000 in
theorem e146_173 {L : Lo} {S : List Value} {h : Hp} {x0 x1 x2 x3 x4 x5 x6 : Option Value} {v : Int32} : Run 146 173 (x0 :: x1 :: x2 :: x3 :: x4 :: x5 :: x6 :: some (.int v) :: L) S h = Run 146 175 (x0 :: x1 :: x2 :: x3 :: x4 :: x5 :: x6 :: some (.int v) :: L) (.int v :: S) h := Rg rfl
set_option maxRecDepth 100000 in
theorem e146_175 {L : Lo} {S : List Value} {h : Hp} {x : Int32} : Run 146 175 L (.int x :: S) h = if x = 0 then Run 146 196 L S h else Run 146 178 L S h := Rbr (c := cnd .eq x 0 = true) (off := 21) rfl rfl cnd_eq
set_option maxRecDepth 100000 in
theorem e146_178 {L : Lo} {S : List Value} {h : Hp} {v : Nat} : Run 146 178 (some (.ref v) :: L) S h = Run 146 179 (some (.ref v) :: L) (.ref v :: S) h := Rg rfl
set_option maxRecDepth 100000 in
theorem e146_179 {L : Lo} {S : List Value} {h : Hp} {x0 : Option Value} {v : Int32} : Run 146 179 (x0 :: some (.int v) :: L) S h = Run 146 180 (x0 :: some (.int v) :: L) (.int v :: S) h := Rg rfl
set_option maxRecDepth 100000 in
theorem e146_180 {L : Lo} {S : List Value} {h : Hp} {v : Nat} : Run 146 180 (some (.ref v) :: L) S h = Run 146 181 (some (.ref v) :: L) (.ref v :: S) h := Rg rfl
set_option maxRecDepth 100000 in
theorem e146_181 {L : Lo} {S : List Value} {h : Hp} {x0 : Option Value} {v : Int32} : Run 146 181 (x0 :: some (.int v) :: L) S h = Run 146 182 (x0 :: some (.int v) :: L) (.int v :: S) h := Rg rfl
set_option maxRecDepth 100000 in
theorem e146_182 {L : Lo} {S : List Value} {h : Hp} : Run 146 182 L S h = Run 146 183 L (.int 1 :: S) h := Rg rfl
set_option maxRecDepth 100000 in
theorem e146_183 {L : Lo} {h : Hp} {a4 : Int32} {a3 : Int32} {a2 : Nat} {a1 : Int32} {a0 : Nat} : Run 146 183 L [.int a4, .int a3, .ref a2, .int a1, .ref a0] h = (Run 126 0 [some (.ref a2), some (.int a3), some (.int a4), none] [] h).bind fun o => aft 146 183 186 L [.int a1, .ref a0] o := Rc (c := 126) (As := [.ref a2, .int a3, .int a4]) (S' := [.int a1, .ref a0]) (pc' := 186) rfl
set_option maxRecDepth 100000 in
theorem e146_186 {L : Lo} {h : Hp} {a2 : Int32} {a1 : Int32} {a0 : Nat} : Run 146 186 L [.int a2, .int a1, .ref a0] h = (Run 138 0 [some (.ref a0), some (.int a1), some (.int a2), none] [] h).bind fun o => aft 146 186 189 L [] o := Rc (c := 138) (As := [.ref a0, .int a1, .int a2]) (S' := []) (pc' := 189) rfl
set_option maxRecDepth 100000 in
theorem e146_189 {L : Lo} {S : List Value} {h : Hp} {x0 x1 x2 x3 x4 : Option Value} {v : Int32} : Run 146 189 (x0 :: x1 :: x2 :: x3 :: x4 :: some (.int v) :: L) S h = Run 146 191 (x0 :: x1 :: x2 :: x3 :: x4 :: some (.int v) :: L) (.int v :: S) h := Rg rfl
set_option maxRecDepth 100000 in
theorem e146_191 {L : Lo} {S : List Value} {h : Hp} {x z : Int32} : Run 146 191 L (.int z :: .int x :: S) h = if x = z then Run 146 196 L S h else Run 146 194 L S h := Rbr (c := cnd .eq x z = true) (off := 5) rfl rfl cnd_eq
set_option maxRecDepth 100000 in
theorem e146_194 {L : Lo} {S : List Value} {h : Hp} : Run 146 194 L S h = Run 146 195 L (.int 0 :: S) h := Rg rfl
set_option maxRecDepth 100000 in
theorem e146_195 {L : Lo} {h : Hp} {x : Int32} (hx : narrow .boolean (.int x) = .int x) : Run 146 195 L [.int x] h = some (.inl (some (.int x)), h) := Rd (if_pos hx)
set_option maxRecDepth 100000 in
theorem e146_196 {L : Lo} {S : List Value} {h : Hp} {v : Nat} : Run 146 196 (some (.ref v) :: L) S h = Run 146 197 (some (.ref v) :: L) (.ref v :: S) h := Rg rfl
set_option maxRecDepth 100000 in
theorem e146_197 {L : Lo} {S : List Value} {h : Hp} {x0 : Option Value} {v : Int32} : Run 146 197 (x0 :: some (.int v) :: L) S h = Run 146 198 (x0 :: some (.int v) :: L) (.int v :: S) h := Rg rfl
set_option maxRecDepth 100000 in
theorem e146_198 {L : Lo} {h : Hp} {a1 : Int32} {a0 : Nat} : Run 146 198 L [.int a1, .ref a0] h = (Run 139 0 [some (.ref a0), some (.int a1), none] [] h).bind fun o => aft 146 198 201 L [] o := Rc (c := 139) (As := [.ref a0, .int a1]) (S' := []) (pc' := 201) rfl
set_option maxRecDepth 100000 in
theorem e146_201 {L : Lo} {S : List Value} {h : Hp} {x0 x1 x2 x3 x4 x5 x6 x7 : Option Value} {y : Option Value} {v : Int32} : Run 146 201 (x0 :: x1 :: x2 :: x3 :: x4 :: x5 :: x6 :: x7 :: y :: L) (.int v :: S) h = Run 146 203 (x0 :: x1 :: x2 :: x3 :: x4 :: x5 :: x6 :: ck x7 :: some (.int v) :: L) S h := Rg rfl
set_option maxRecDepth 100000 in
theorem e146_203 {L : Lo} {S : List Value} {h : Hp} {x0 x1 x2 x3 x4 x5 x6 x7 : Option Value} {v : Int32} : Run 146 203 (x0 :: x1 :: x2 :: x3 :: x4 :: x5 :: x6 :: x7 :: some (.int v) :: L) S h = Run 146 205 (x0 :: x1 :: x2 :: x3 :: x4 :: x5 :: x6 :: x7 :: some (.int v) :: L) (.int v :: S) h := Rg rfl
set_option maxRecDepth 100000 in
theorem e146_205 {L : Lo} {S : List Value} {h : Hp} : Run 146 205 L S h = Run 146 206 L (.int (-1) :: S) h := Rg rfl
set_option maxRecDepth 100000 in
theorem e146_206 {L : Lo} {S : List Value} {h : Hp} {x z : Int32} : Run 146 206 L (.int z :: .int x :: S) h = if x = z then Run 146 209 L S h else Run 146 213 L S h := RbrN (c := cnd .ne x z = true) (off := 7) rfl rfl cnd_ne
set_option maxRecDepth 100000 in
theorem e146_209 {L : Lo} {S : List Value} {h : Hp} : Run 146 209 L S h = Run 146 210 L (.int 0 :: S) h := Rg rfl
set_option maxRecDepth 100000 in
theorem e146_210 {L : Lo} {S : List Value} {h : Hp} : Run 146 210 L S h = Run 146 235 L S h := Rg rfl
set_option maxRecDepth 100000 in
theorem e146_213 {L : Lo} {S : List Value} {h : Hp} {v : Nat} : Run 146 213 (some (.ref v) :: L) S h = Run 146 214 (some (.ref v) :: L) (.ref v :: S) h := Rg rfl
set_option maxRecDepth 100000 in
theorem e146_214 {L : Lo} {S : List Value} {h : Hp} {x0 : Option Value} {v : Int32} : Run 146 214 (x0 :: some (.int v) :: L) S h = Run 146 215 (x0 :: some (.int v) :: L) (.int v :: S) h := Rg rfl
set_option maxRecDepth 100000 in
theorem e146_215 {L : Lo} {S : List Value} {h : Hp} {x0 x1 x2 x3 x4 x5 x6 x7 : Option Value} {v : Int32} : Run 146 215 (x0 :: x1 :: x2 :: x3 :: x4 :: x5 :: x6 :: x7 :: some (.int v) :: L) S h = Run 146 217 (x0 :: x1 :: x2 :: x3 :: x4 :: x5 :: x6 :: x7 :: some (.int v) :: L) (.int v :: S) h := Rg rfl
set_option maxRecDepth 100000 in
theorem e146_217 {L : Lo} {S : List Value} {h : Hp} : Run 146 217 L S h = Run 146 218 L (.int 2 :: S) h := Rg rfl
set_option maxRecDepth 100000 in
theorem e146_218 {L : Lo} {S : List Value} {h : Hp} {x z : Int32} (hz : ¬ z = 0) : Run 146 218 L (.int z :: .int x :: S) h = Run 146 219 L (.int (x - x / z * z) :: S) h := Rg (if_neg hz)
set_option maxRecDepth 100000 in
theorem e146_219 {L : Lo} {S : List Value} {h : Hp} : Run 146 219 L S h = Run 146 220 L (.int 1 :: S) h := Rg rfl
set_option maxRecDepth 100000 in
theorem e146_220 {L : Lo} {S : List Value} {h : Hp} {x z : Int32} : Run 146 220 L (.int z :: .int x :: S) h = if x = z then Run 146 223 L S h else Run 146 227 L S h := RbrN (c := cnd .ne x z = true) (off := 7) rfl rfl cnd_ne
set_option maxRecDepth 100000 in
theorem e146_223 {L : Lo} {S : List Value} {h : Hp} : Run 146 223 L S h = Run 146 224 L (.int 1 :: S) h := Rg rfl
set_option maxRecDepth 100000 in
theorem e146_224 {L : Lo} {S : List Value} {h : Hp} : Run 146 224 L S h = Run 146 228 L S h := Rg rfl
set_option maxRecDepth 100000 in
theorem e146_227 {L : Lo} {S : List Value} {h : Hp} : Run 146 227 L S h = Run 146 228 L (.int 0 :: S) h := Rg rfl
set_option maxRecDepth 100000 in
theorem e146_228 {L : Lo} {S : List Value} {h : Hp} {x0 x1 x2 x3 x4 x5 x6 x7 : Option Value} {v : Int32} : Run 146 228 (x0 :: x1 :: x2 :: x3 :: x4 :: x5 :: x6 :: x7 :: some (.int v) :: L) S h = Run 146 230 (x0 :: x1 :: x2 :: x3 :: x4 :: x5 :: x6 :: x7 :: some (.int v) :: L) (.int v :: S) h := Rg rfl
set_option maxRecDepth 100000 in
theorem e146_230 {L : Lo} {S : List Value} {h : Hp} : Run 146 230 L S h = Run 146 231 L (.int 2 :: S) h := Rg rfl
set_option maxRecDepth 100000 in
theorem e146_231 {L : Lo} {S : List Value} {h : Hp} {x z : Int32} (hz : ¬ z = 0) : Run 146 231 L (.int z :: .int x :: S) h = Run 146 232 L (.int (x / z) :: S) h := Rg (if_neg hz)
set_option maxRecDepth 100000 in
theorem e146_232 {L : Lo} {h : Hp} {a3 : Int32} {a2 : Int32} {a1 : Int32} {a0 : Nat} : Run 146 232 L [.int a3, .int a2, .int a1, .ref a0] h = (Run 132 0 [some (.ref a0), some (.int a1), some (.int a2), some (.int a3), none] [] h).bind fun o => aft 146 232 235 L [] o := Rc (c := 132) (As := [.ref a0, .int a1, .int a2, .int a3]) (S' := []) (pc' := 235) rfl
set_option maxRecDepth 100000 in
theorem e146_235 {L : Lo} {S : List Value} {h : Hp} {x0 x1 x2 x3 x4 x5 x6 x7 x8 : Option Value} {y : Option Value} {v : Int32} : Run 146 235 (x0 :: x1 :: x2 :: x3 :: x4 :: x5 :: x6 :: x7 :: x8 :: y :: L) (.int v :: S) h = Run 146 237 (x0 :: x1 :: x2 :: x3 :: x4 :: x5 :: x6 :: x7 :: ck x8 :: some (.int v) :: L) S h := Rg rfl
set_option maxRecDepth 100000 in
theorem e146_237 {L : Lo} {S : List Value} {h : Hp} : Run 146 237 L S h = Run 146 238 L (.int 0 :: S) h := Rg rfl
set_option maxRecDepth 100000 in
theorem e146_238 {L : Lo} {S : List Value} {h : Hp} {x0 x1 x2 x3 x4 x5 x6 x7 x8 x9 : Option Value} {y : Option Value} {v : Int32} : Run 146 238 (x0 :: x1 :: x2 :: x3 :: x4 :: x5 :: x6 :: x7 :: x8 :: x9 :: y :: L) (.int v :: S) h = Run 146 240 (x0 :: x1 :: x2 :: x3 :: x4 :: x5 :: x6 :: x7 :: x8 :: ck x9 :: some (.int v) :: L) S h := Rg rfl
set_option maxRecDepth 100000 in
theorem e146_240 {L : Lo} {S : List Value} {h : Hp} {x0 x1 x2 x3 x4 x5 x6 x7 x8 x9 : Option Value} {v : Int32} : Run 146 240 (x0 :: x1 :: x2 :: x3 :: x4 :: x5 :: x6 :: x7 :: x8 :: x9 :: some (.int v) :: L) S h = Run 146 242 (x0 :: x1 :: x2 :: x3 :: x4 :: x5 :: x6 :: x7 :: x8 :: x9 :: some (.int v) :: L) (.int v :: S) h := Rg rfl
set_option maxRecDepth 100000 in
theorem e146_242 {L : Lo} {S : List Value} {h : Hp} {v : Nat} : Run 146 242 (some (.ref v) :: L) S h = Run 146 243 (some (.ref v) :: L) (.ref v :: S) h := Rg rfl
set_option maxRecDepth 100000 in
theorem e146_243 {L : Lo} {S : List Value} {h : Hp} : Run 146 243 L S h = Run 146 244 L (.int 5 :: S) h := Rg rfl
set_option maxRecDepth 100000 in
theorem e146_244 {L : Lo} {h : Hp} {a2 : Int32} {a1 : Nat} {a0 : Int32} : Run 146 244 L [.int a2, .ref a1, .int a0] h = (Run 125 0 [some (.ref a1), some (.int a2), none] [] h).bind fun o => aft 146 244 247 L [.int a0] o := Rc (c := 125) (As := [.ref a1, .int a2]) (S' := [.int a0]) (pc' := 247) rfl
set_option maxRecDepth 100000 in
theorem e146_247 {L : Lo} {S : List Value} {h : Hp} {x z : Int32} : Run 146 247 L (.int z :: .int x :: S) h = if z ≤ x then Run 146 443 L S h else Run 146 250 L S h := Rbr (c := cnd .ge x z = true) (off := 196) rfl rfl cnd_ge
set_option maxRecDepth 100000 in
theorem e146_250 {L : Lo} {S : List Value} {h : Hp} : Run 146 250 L S h = Run 146 251 L (.int 0 :: S) h := Rg rfl
set_option maxRecDepth 100000 in
theorem e146_251 {L : Lo} {S : List Value} {h : Hp} {x0 x1 x2 x3 x4 x5 x6 x7 x8 x9 x10 : Option Value} {y : Option Value} {v : Int32} : Run 146 251 (x0 :: x1 :: x2 :: x3 :: x4 :: x5 :: x6 :: x7 :: x8 :: x9 :: x10 :: y :: L) (.int v :: S) h = Run 146 253 (x0 :: x1 :: x2 :: x3 :: x4 :: x5 :: x6 :: x7 :: x8 :: x9 :: ck x10 :: some (.int v) :: L) S h := Rg rfl
set_option maxRecDepth 100000 in
theorem e146_253 {L : Lo} {S : List Value} {h : Hp} {x0 x1 x2 x3 x4 x5 x6 x7 x8 x9 x10 : Option Value} {v : Int32} : Run 146 253 (x0 :: x1 :: x2 :: x3 :: x4 :: x5 :: x6 :: x7 :: x8 :: x9 :: x10 :: some (.int v) :: L) S h = Run 146 255 (x0 :: x1 :: x2 :: x3 :: x4 :: x5 :: x6 :: x7 :: x8 :: x9 :: x10 :: some (.int v) :: L) (.int v :: S) h := Rg rfl
set_option maxRecDepth 100000 in
theorem e146_255 {L : Lo} {S : List Value} {h : Hp} : Run 146 255 L S h = Run 146 256 L (.int 2 :: S) h := Rg rfl
set_option maxRecDepth 100000 in
theorem e146_256 {L : Lo} {S : List Value} {h : Hp} {x z : Int32} : Run 146 256 L (.int z :: .int x :: S) h = if z ≤ x then Run 146 437 L S h else Run 146 259 L S h := Rbr (c := cnd .ge x z = true) (off := 181) rfl rfl cnd_ge
set_option maxRecDepth 100000 in
theorem e146_259 {L : Lo} {S : List Value} {h : Hp} {x0 x1 x2 x3 x4 x5 x6 x7 x8 x9 : Option Value} {v : Int32} : Run 146 259 (x0 :: x1 :: x2 :: x3 :: x4 :: x5 :: x6 :: x7 :: x8 :: x9 :: some (.int v) :: L) S h = Run 146 261 (x0 :: x1 :: x2 :: x3 :: x4 :: x5 :: x6 :: x7 :: x8 :: x9 :: some (.int v) :: L) (.int v :: S) h := Rg rfl
set_option maxRecDepth 100000 in
theorem e146_261 {L : Lo} {S : List Value} {h : Hp} {x0 : Option Value} {v : Int32} : Run 146 261 (x0 :: some (.int v) :: L) S h = Run 146 262 (x0 :: some (.int v) :: L) (.int v :: S) h := Rg rfl
set_option maxRecDepth 100000 in
theorem e146_262 {L : Lo} {S : List Value} {h : Hp} {x z : Int32} : Run 146 262 L (.int z :: .int x :: S) h = if x = z then Run 146 437 L S h else Run 146 265 L S h := Rbr (c := cnd .eq x z = true) (off := 175) rfl rfl cnd_eq
set_option maxRecDepth 100000 in
theorem e146_265 {L : Lo} {S : List Value} {h : Hp} {v : Nat} : Run 146 265 (some (.ref v) :: L) S h = Run 146 266 (some (.ref v) :: L) (.ref v :: S) h := Rg rfl
set_option maxRecDepth 100000 in
theorem e146_266 {L : Lo} {S : List Value} {h : Hp} {x0 : Option Value} {v : Int32} : Run 146 266 (x0 :: some (.int v) :: L) S h = Run 146 267 (x0 :: some (.int v) :: L) (.int v :: S) h := Rg rfl
set_option maxRecDepth 100000 in
theorem e146_267 {L : Lo} {S : List Value} {h : Hp} {x0 x1 x2 x3 x4 x5 x6 x7 x8 x9 x10 : Option Value} {v : Int32} : Run 146 267 (x0 :: x1 :: x2 :: x3 :: x4 :: x5 :: x6 :: x7 :: x8 :: x9 :: x10 :: some (.int v) :: L) S h = Run 146 269 (x0 :: x1 :: x2 :: x3 :: x4 :: x5 :: x6 :: x7 :: x8 :: x9 :: x10 :: some (.int v) :: L) (.int v :: S) h := Rg rfl
set_option maxRecDepth 100000 in
theorem e146_269 {L : Lo} {S : List Value} {h : Hp} : Run 146 269 L S h = Run 146 270 L (.int 1 :: S) h := Rg rfl
set_option maxRecDepth 100000 in
theorem e146_270 {L : Lo} {S : List Value} {h : Hp} {x z : Int32} : Run 146 270 L (.int z :: .int x :: S) h = if x = z then Run 146 273 L S h else Run 146 277 L S h := RbrN (c := cnd .ne x z = true) (off := 7) rfl rfl cnd_ne
set_option maxRecDepth 100000 in
theorem e146_273 {L : Lo} {S : List Value} {h : Hp} : Run 146 273 L S h = Run 146 274 L (.int 1 :: S) h := Rg rfl
set_option maxRecDepth 100000 in
theorem e146_274 {L : Lo} {S : List Value} {h : Hp} : Run 146 274 L S h = Run 146 278 L S h := Rg rfl
set_option maxRecDepth 100000 in
theorem e146_277 {L : Lo} {S : List Value} {h : Hp} : Run 146 277 L S h = Run 146 278 L (.int 0 :: S) h := Rg rfl
set_option maxRecDepth 100000 in
theorem e146_278 {L : Lo} {S : List Value} {h : Hp} {x0 x1 x2 x3 x4 x5 x6 x7 x8 x9 : Option Value} {v : Int32} : Run 146 278 (x0 :: x1 :: x2 :: x3 :: x4 :: x5 :: x6 :: x7 :: x8 :: x9 :: some (.int v) :: L) S h = Run 146 280 (x0 :: x1 :: x2 :: x3 :: x4 :: x5 :: x6 :: x7 :: x8 :: x9 :: some (.int v) :: L) (.int v :: S) h := Rg rfl
set_option maxRecDepth 100000 in
theorem e146_280 {L : Lo} {h : Hp} {a3 : Int32} {a2 : Int32} {a1 : Int32} {a0 : Nat} : Run 146 280 L [.int a3, .int a2, .int a1, .ref a0] h = (Run 132 0 [some (.ref a0), some (.int a1), some (.int a2), some (.int a3), none] [] h).bind fun o => aft 146 280 283 L [] o := Rc (c := 132) (As := [.ref a0, .int a1, .int a2, .int a3]) (S' := []) (pc' := 283) rfl
set_option maxRecDepth 100000 in
theorem e146_283 {L : Lo} {S : List Value} {h : Hp} {x0 x1 x2 x3 x4 x5 x6 x7 x8 x9 x10 x11 : Option Value} {y : Option Value} {v : Int32} : Run 146 283 (x0 :: x1 :: x2 :: x3 :: x4 :: x5 :: x6 :: x7 :: x8 :: x9 :: x10 :: x11 :: y :: L) (.int v :: S) h = Run 146 285 (x0 :: x1 :: x2 :: x3 :: x4 :: x5 :: x6 :: x7 :: x8 :: x9 :: x10 :: ck x11 :: some (.int v) :: L) S h := Rg rfl
set_option maxRecDepth 100000 in
theorem e146_285 {L : Lo} {S : List Value} {h : Hp} {x0 x1 x2 x3 x4 x5 x6 x7 x8 x9 x10 x11 : Option Value} {v : Int32} : Run 146 285 (x0 :: x1 :: x2 :: x3 :: x4 :: x5 :: x6 :: x7 :: x8 :: x9 :: x10 :: x11 :: some (.int v) :: L) S h = Run 146 287 (x0 :: x1 :: x2 :: x3 :: x4 :: x5 :: x6 :: x7 :: x8 :: x9 :: x10 :: x11 :: some (.int v) :: L) (.int v :: S) h := Rg rfl
set_option maxRecDepth 100000 in
theorem e146_287 {L : Lo} {S : List Value} {h : Hp} {x : Int32} : Run 146 287 L (.int x :: S) h = if x < 0 then Run 146 372 L S h else Run 146 290 L S h := Rbr (c := cnd .lt x 0 = true) (off := 85) rfl rfl cnd_lt
set_option maxRecDepth 100000 in
theorem e146_290 {L : Lo} {S : List Value} {h : Hp} {x0 x1 x2 x3 x4 x5 x6 x7 x8 x9 x10 x11 : Option Value} {v : Int32} : Run 146 290 (x0 :: x1 :: x2 :: x3 :: x4 :: x5 :: x6 :: x7 :: x8 :: x9 :: x10 :: x11 :: some (.int v) :: L) S h = Run 146 292 (x0 :: x1 :: x2 :: x3 :: x4 :: x5 :: x6 :: x7 :: x8 :: x9 :: x10 :: x11 :: some (.int v) :: L) (.int v :: S) h := Rg rfl
set_option maxRecDepth 100000 in
theorem e146_292 {L : Lo} {S : List Value} {h : Hp} : Run 146 292 L S h = Run 146 295 L (.int 144 :: S) h := Rg rfl
set_option maxRecDepth 100000 in
theorem e146_295 {L : Lo} {S : List Value} {h : Hp} {x z : Int32} : Run 146 295 L (.int z :: .int x :: S) h = if z < x then Run 146 372 L S h else Run 146 298 L S h := Rbr (c := cnd .gt x z = true) (off := 77) rfl rfl cnd_gt
set_option maxRecDepth 100000 in
theorem e146_298 {L : Lo} {S : List Value} {h : Hp} {x0 x1 x2 x3 x4 x5 x6 x7 x8 x9 x10 x11 : Option Value} {v : Int32} : Run 146 298 (x0 :: x1 :: x2 :: x3 :: x4 :: x5 :: x6 :: x7 :: x8 :: x9 :: x10 :: x11 :: some (.int v) :: L) S h = Run 146 300 (x0 :: x1 :: x2 :: x3 :: x4 :: x5 :: x6 :: x7 :: x8 :: x9 :: x10 :: x11 :: some (.int v) :: L) (.int v :: S) h := Rg rfl
set_option maxRecDepth 100000 in
theorem e146_300 {L : Lo} {S : List Value} {h : Hp} {x0 x1 x2 x3 x4 x5 x6 x7 x8 : Option Value} {v : Int32} : Run 146 300 (x0 :: x1 :: x2 :: x3 :: x4 :: x5 :: x6 :: x7 :: x8 :: some (.int v) :: L) S h = Run 146 302 (x0 :: x1 :: x2 :: x3 :: x4 :: x5 :: x6 :: x7 :: x8 :: some (.int v) :: L) (.int v :: S) h := Rg rfl
set_option maxRecDepth 100000 in
theorem e146_302 {L : Lo} {S : List Value} {h : Hp} {x z : Int32} : Run 146 302 L (.int z :: .int x :: S) h = if z < x then Run 146 372 L S h else Run 146 305 L S h := Rbr (c := cnd .gt x z = true) (off := 70) rfl rfl cnd_gt
set_option maxRecDepth 100000 in
theorem e146_305 {L : Lo} {S : List Value} {h : Hp} {x0 x1 x2 x3 x4 x5 x6 x7 x8 x9 x10 x11 : Option Value} {v : Int32} : Run 146 305 (x0 :: x1 :: x2 :: x3 :: x4 :: x5 :: x6 :: x7 :: x8 :: x9 :: x10 :: x11 :: some (.int v) :: L) S h = Run 146 307 (x0 :: x1 :: x2 :: x3 :: x4 :: x5 :: x6 :: x7 :: x8 :: x9 :: x10 :: x11 :: some (.int v) :: L) (.int v :: S) h := Rg rfl
set_option maxRecDepth 100000 in
theorem e146_307 {L : Lo} {S : List Value} {h : Hp} {x : Int32} : Run 146 307 L (.int x :: S) h = if x = 0 then Run 146 368 L S h else Run 146 310 L S h := Rbr (c := cnd .eq x 0 = true) (off := 61) rfl rfl cnd_eq
set_option maxRecDepth 100000 in
theorem e146_310 {L : Lo} {S : List Value} {h : Hp} {v : Nat} : Run 146 310 (some (.ref v) :: L) S h = Run 146 311 (some (.ref v) :: L) (.ref v :: S) h := Rg rfl
set_option maxRecDepth 100000 in
theorem e146_311 {L : Lo} {S : List Value} {h : Hp} {x0 : Option Value} {v : Int32} : Run 146 311 (x0 :: some (.int v) :: L) S h = Run 146 312 (x0 :: some (.int v) :: L) (.int v :: S) h := Rg rfl
set_option maxRecDepth 100000 in
theorem e146_312 {L : Lo} {S : List Value} {h : Hp} : Run 146 312 L S h = Run 146 313 L (.int 0 :: S) h := Rg rfl
set_option maxRecDepth 100000 in
theorem e146_313 {L : Lo} {h : Hp} {a2 : Int32} {a1 : Int32} {a0 : Nat} : Run 146 313 L [.int a2, .int a1, .ref a0] h = (Run 126 0 [some (.ref a0), some (.int a1), some (.int a2), none] [] h).bind fun o => aft 146 313 316 L [] o := Rc (c := 126) (As := [.ref a0, .int a1, .int a2]) (S' := []) (pc' := 316) rfl
set_option maxRecDepth 100000 in
theorem e146_316 {L : Lo} {S : List Value} {h : Hp} {v : Nat} : Run 146 316 (some (.ref v) :: L) S h = Run 146 317 (some (.ref v) :: L) (.ref v :: S) h := Rg rfl
set_option maxRecDepth 100000 in
theorem e146_317 {L : Lo} {S : List Value} {h : Hp} {x0 x1 x2 x3 x4 x5 x6 x7 x8 x9 : Option Value} {v : Int32} : Run 146 317 (x0 :: x1 :: x2 :: x3 :: x4 :: x5 :: x6 :: x7 :: x8 :: x9 :: some (.int v) :: L) S h = Run 146 319 (x0 :: x1 :: x2 :: x3 :: x4 :: x5 :: x6 :: x7 :: x8 :: x9 :: some (.int v) :: L) (.int v :: S) h := Rg rfl
set_option maxRecDepth 100000 in
theorem e146_319 {L : Lo} {S : List Value} {h : Hp} : Run 146 319 L S h = Run 146 320 L (.int 0 :: S) h := Rg rfl
set_option maxRecDepth 100000 in
theorem e146_320 {L : Lo} {h : Hp} {a3 : Int32} {a2 : Int32} {a1 : Nat} {a0 : Int32} : Run 146 320 L [.int a3, .int a2, .ref a1, .int a0] h = (Run 126 0 [some (.ref a1), some (.int a2), some (.int a3), none] [] h).bind fun o => aft 146 320 323 L [.int a0] o := Rc (c := 126) (As := [.ref a1, .int a2, .int a3]) (S' := [.int a0]) (pc' := 323) rfl
set_option maxRecDepth 100000 in
theorem e146_323 {L : Lo} {S : List Value} {h : Hp} {x z : Int32} : Run 146 323 L (.int z :: .int x :: S) h = if x = z then Run 146 372 L S h else Run 146 326 L S h := Rbr (c := cnd .eq x z = true) (off := 49) rfl rfl cnd_eq
set_option maxRecDepth 100000 in
theorem e146_326 {L : Lo} {S : List Value} {h : Hp} {v : Nat} : Run 146 326 (some (.ref v) :: L) S h = Run 146 327 (some (.ref v) :: L) (.ref v :: S) h := Rg rfl
set_option maxRecDepth 100000 in
theorem e146_327 {L : Lo} {S : List Value} {h : Hp} {x0 : Option Value} {v : Int32} : Run 146 327 (x0 :: some (.int v) :: L) S h = Run 146 328 (x0 :: some (.int v) :: L) (.int v :: S) h := Rg rfl
set_option maxRecDepth 100000 in
theorem e146_328 {L : Lo} {S : List Value} {h : Hp} : Run 146 328 L S h = Run 146 329 L (.int 5 :: S) h := Rg rfl
set_option maxRecDepth 100000 in
theorem e146_329 {L : Lo} {S : List Value} {h : Hp} {x0 x1 x2 x3 x4 x5 x6 x7 x8 x9 x10 : Option Value} {v : Int32} : Run 146 329 (x0 :: x1 :: x2 :: x3 :: x4 :: x5 :: x6 :: x7 :: x8 :: x9 :: x10 :: some (.int v) :: L) S h = Run 146 331 (x0 :: x1 :: x2 :: x3 :: x4 :: x5 :: x6 :: x7 :: x8 :: x9 :: x10 :: some (.int v) :: L) (.int v :: S) h := Rg rfl
set_option maxRecDepth 100000 in
theorem e146_331 {L : Lo} {S : List Value} {h : Hp} {x z : Int32} : Run 146 331 L (.int z :: .int x :: S) h = Run 146 332 L (.int (x + z) :: S) h := Rg rfl
set_option maxRecDepth 100000 in
theorem e146_332 {L : Lo} {h : Hp} {a2 : Int32} {a1 : Int32} {a0 : Nat} : Run 146 332 L [.int a2, .int a1, .ref a0] h = (Run 126 0 [some (.ref a0), some (.int a1), some (.int a2), none] [] h).bind fun o => aft 146 332 335 L [] o := Rc (c := 126) (As := [.ref a0, .int a1, .int a2]) (S' := []) (pc' := 335) rfl
set_option maxRecDepth 100000 in
theorem e146_335 {L : Lo} {S : List Value} {h : Hp} {x : Int32} : Run 146 335 L (.int x :: S) h = if x ≤ 0 then Run 146 372 L S h else Run 146 338 L S h := Rbr (c := cnd .le x 0 = true) (off := 37) rfl rfl cnd_le
set_option maxRecDepth 100000 in
theorem e146_338 {L : Lo} {S : List Value} {h : Hp} {x0 x1 x2 x3 x4 x5 x6 : Option Value} {v : Int32} : Run 146 338 (x0 :: x1 :: x2 :: x3 :: x4 :: x5 :: x6 :: some (.int v) :: L) S h = Run 146 340 (x0 :: x1 :: x2 :: x3 :: x4 :: x5 :: x6 :: some (.int v) :: L) (.int v :: S) h := Rg rfl
set_option maxRecDepth 100000 in
theorem e146_340 {L : Lo} {S : List Value} {h : Hp} {x : Int32} : Run 146 340 L (.int x :: S) h = if x = 0 then Run 146 372 L S h else Run 146 343 L S h := Rbr (c := cnd .eq x 0 = true) (off := 32) rfl rfl cnd_eq
set_option maxRecDepth 100000 in
theorem e146_343 {L : Lo} {S : List Value} {h : Hp} {v : Nat} : Run 146 343 (some (.ref v) :: L) S h = Run 146 344 (some (.ref v) :: L) (.ref v :: S) h := Rg rfl
set_option maxRecDepth 100000 in
theorem e146_344 {L : Lo} {S : List Value} {h : Hp} {x0 x1 x2 x3 x4 x5 x6 x7 x8 x9 : Option Value} {v : Int32} : Run 146 344 (x0 :: x1 :: x2 :: x3 :: x4 :: x5 :: x6 :: x7 :: x8 :: x9 :: some (.int v) :: L) S h = Run 146 346 (x0 :: x1 :: x2 :: x3 :: x4 :: x5 :: x6 :: x7 :: x8 :: x9 :: some (.int v) :: L) (.int v :: S) h := Rg rfl
set_option maxRecDepth 100000 in
theorem e146_346 {L : Lo} {S : List Value} {h : Hp} : Run 146 346 L S h = Run 146 347 L (.int 3 :: S) h := Rg rfl
set_option maxRecDepth 100000 in
theorem e146_347 {L : Lo} {h : Hp} {a2 : Int32} {a1 : Int32} {a0 : Nat} : Run 146 347 L [.int a2, .int a1, .ref a0] h = (Run 126 0 [some (.ref a0), some (.int a1), some (.int a2), none] [] h).bind fun o => aft 146 347 350 L [] o := Rc (c := 126) (As := [.ref a0, .int a1, .int a2]) (S' := []) (pc' := 350) rfl
set_option maxRecDepth 100000 in
theorem e146_350 {L : Lo} {S : List Value} {h : Hp} {x : Int32} : Run 146 350 L (.int x :: S) h = if x ≤ 0 then Run 146 372 L S h else Run 146 353 L S h := Rbr (c := cnd .le x 0 = true) (off := 22) rfl rfl cnd_le
set_option maxRecDepth 100000 in
theorem e146_353 {L : Lo} {S : List Value} {h : Hp} {x0 x1 x2 x3 x4 x5 x6 x7 x8 x9 x10 x11 : Option Value} {v : Int32} : Run 146 353 (x0 :: x1 :: x2 :: x3 :: x4 :: x5 :: x6 :: x7 :: x8 :: x9 :: x10 :: x11 :: some (.int v) :: L) S h = Run 146 355 (x0 :: x1 :: x2 :: x3 :: x4 :: x5 :: x6 :: x7 :: x8 :: x9 :: x10 :: x11 :: some (.int v) :: L) (.int v :: S) h := Rg rfl
set_option maxRecDepth 100000 in
theorem e146_355 {L : Lo} {S : List Value} {h : Hp} {v : Nat} : Run 146 355 (some (.ref v) :: L) S h = Run 146 356 (some (.ref v) :: L) (.ref v :: S) h := Rg rfl
set_option maxRecDepth 100000 in
theorem e146_356 {L : Lo} {S : List Value} {h : Hp} {x0 : Option Value} {v : Int32} : Run 146 356 (x0 :: some (.int v) :: L) S h = Run 146 357 (x0 :: some (.int v) :: L) (.int v :: S) h := Rg rfl
set_option maxRecDepth 100000 in
theorem e146_357 {L : Lo} {S : List Value} {h : Hp} : Run 146 357 L S h = Run 146 358 L (.int 5 :: S) h := Rg rfl
set_option maxRecDepth 100000 in
theorem e146_358 {L : Lo} {S : List Value} {h : Hp} {x0 x1 x2 x3 x4 x5 x6 x7 x8 x9 x10 : Option Value} {v : Int32} : Run 146 358 (x0 :: x1 :: x2 :: x3 :: x4 :: x5 :: x6 :: x7 :: x8 :: x9 :: x10 :: some (.int v) :: L) S h = Run 146 360 (x0 :: x1 :: x2 :: x3 :: x4 :: x5 :: x6 :: x7 :: x8 :: x9 :: x10 :: some (.int v) :: L) (.int v :: S) h := Rg rfl
set_option maxRecDepth 100000 in
theorem e146_360 {L : Lo} {S : List Value} {h : Hp} {x z : Int32} : Run 146 360 L (.int z :: .int x :: S) h = Run 146 361 L (.int (x + z) :: S) h := Rg rfl
set_option maxRecDepth 100000 in
theorem e146_361 {L : Lo} {h : Hp} {a3 : Int32} {a2 : Int32} {a1 : Nat} {a0 : Int32} : Run 146 361 L [.int a3, .int a2, .ref a1, .int a0] h = (Run 126 0 [some (.ref a1), some (.int a2), some (.int a3), none] [] h).bind fun o => aft 146 361 364 L [.int a0] o := Rc (c := 126) (As := [.ref a1, .int a2, .int a3]) (S' := [.int a0]) (pc' := 364) rfl
set_option maxRecDepth 100000 in
theorem e146_364 {L : Lo} {S : List Value} {h : Hp} {x z : Int32} (hz : ¬ z = 0) : Run 146 364 L (.int z :: .int x :: S) h = Run 146 365 L (.int (x - x / z * z) :: S) h := Rg (if_neg hz)
set_option maxRecDepth 100000 in
theorem e146_365 {L : Lo} {S : List Value} {h : Hp} {x : Int32} : Run 146 365 L (.int x :: S) h = if x = 0 then Run 146 368 L S h else Run 146 372 L S h := RbrN (c := cnd .ne x 0 = true) (off := 7) rfl rfl cnd_ne
set_option maxRecDepth 100000 in
theorem e146_368 {L : Lo} {S : List Value} {h : Hp} : Run 146 368 L S h = Run 146 369 L (.int 1 :: S) h := Rg rfl
set_option maxRecDepth 100000 in
theorem e146_369 {L : Lo} {S : List Value} {h : Hp} : Run 146 369 L S h = Run 146 373 L S h := Rg rfl
set_option maxRecDepth 100000 in
theorem e146_372 {L : Lo} {S : List Value} {h : Hp} : Run 146 372 L S h = Run 146 373 L (.int 0 :: S) h := Rg rfl
set_option maxRecDepth 100000 in
theorem e146_373 {L : Lo} {S : List Value} {h : Hp} {x0 x1 x2 x3 x4 x5 x6 x7 x8 x9 x10 x11 x12 : Option Value} {y : Option Value} {v : Int32} : Run 146 373 (x0 :: x1 :: x2 :: x3 :: x4 :: x5 :: x6 :: x7 :: x8 :: x9 :: x10 :: x11 :: x12 :: y :: L) (.int v :: S) h = Run 146 375 (x0 :: x1 :: x2 :: x3 :: x4 :: x5 :: x6 :: x7 :: x8 :: x9 :: x10 :: x11 :: ck x12 :: some (.int v) :: L) S h := Rg rfl
set_option maxRecDepth 100000 in
theorem e146_375 {L : Lo} {S : List Value} {h : Hp} {x0 x1 x2 x3 x4 x5 x6 x7 x8 x9 x10 x11 x12 : Option Value} {v : Int32} : Run 146 375 (x0 :: x1 :: x2 :: x3 :: x4 :: x5 :: x6 :: x7 :: x8 :: x9 :: x10 :: x11 :: x12 :: some (.int v) :: L) S h = Run 146 377 (x0 :: x1 :: x2 :: x3 :: x4 :: x5 :: x6 :: x7 :: x8 :: x9 :: x10 :: x11 :: x12 :: some (.int v) :: L) (.int v :: S) h := Rg rfl
set_option maxRecDepth 100000 in
theorem e146_377 {L : Lo} {S : List Value} {h : Hp} {x : Int32} : Run 146 377 L (.int x :: S) h = if x = 0 then Run 146 429 L S h else Run 146 380 L S h := Rbr (c := cnd .eq x 0 = true) (off := 52) rfl rfl cnd_eq
set_option maxRecDepth 100000 in
theorem e146_380 {L : Lo} {S : List Value} {h : Hp} {x0 x1 x2 x3 x4 x5 x6 x7 x8 x9 x10 x11 : Option Value} {v : Int32} : Run 146 380 (x0 :: x1 :: x2 :: x3 :: x4 :: x5 :: x6 :: x7 :: x8 :: x9 :: x10 :: x11 :: some (.int v) :: L) S h = Run 146 382 (x0 :: x1 :: x2 :: x3 :: x4 :: x5 :: x6 :: x7 :: x8 :: x9 :: x10 :: x11 :: some (.int v) :: L) (.int v :: S) h := Rg rfl
set_option maxRecDepth 100000 in
theorem e146_382 {L : Lo} {S : List Value} {h : Hp} {x : Int32} : Run 146 382 L (.int x :: S) h = if x ≤ 0 then Run 146 405 L S h else Run 146 385 L S h := Rbr (c := cnd .le x 0 = true) (off := 23) rfl rfl cnd_le
set_option maxRecDepth 100000 in
theorem e146_385 {L : Lo} {S : List Value} {h : Hp} {v : Nat} : Run 146 385 (some (.ref v) :: L) S h = Run 146 386 (some (.ref v) :: L) (.ref v :: S) h := Rg rfl
set_option maxRecDepth 100000 in
theorem e146_386 {L : Lo} {S : List Value} {h : Hp} {x0 : Option Value} {v : Int32} : Run 146 386 (x0 :: some (.int v) :: L) S h = Run 146 387 (x0 :: some (.int v) :: L) (.int v :: S) h := Rg rfl
set_option maxRecDepth 100000 in
theorem e146_387 {L : Lo} {S : List Value} {h : Hp} {x0 x1 x2 x3 x4 x5 x6 x7 x8 x9 x10 : Option Value} {v : Int32} : Run 146 387 (x0 :: x1 :: x2 :: x3 :: x4 :: x5 :: x6 :: x7 :: x8 :: x9 :: x10 :: some (.int v) :: L) S h = Run 146 389 (x0 :: x1 :: x2 :: x3 :: x4 :: x5 :: x6 :: x7 :: x8 :: x9 :: x10 :: some (.int v) :: L) (.int v :: S) h := Rg rfl
set_option maxRecDepth 100000 in
theorem e146_389 {L : Lo} {S : List Value} {h : Hp} {x : Int32} : Run 146 389 L (.int x :: S) h = if x = 0 then Run 146 392 L S h else Run 146 396 L S h := RbrN (c := cnd .ne x 0 = true) (off := 7) rfl rfl cnd_ne
set_option maxRecDepth 100000 in
theorem e146_392 {L : Lo} {S : List Value} {h : Hp} : Run 146 392 L S h = Run 146 393 L (.int 1 :: S) h := Rg rfl
set_option maxRecDepth 100000 in
theorem e146_393 {L : Lo} {S : List Value} {h : Hp} : Run 146 393 L S h = Run 146 397 L S h := Rg rfl
set_option maxRecDepth 100000 in
theorem e146_396 {L : Lo} {S : List Value} {h : Hp} : Run 146 396 L S h = Run 146 397 L (.int 0 :: S) h := Rg rfl
set_option maxRecDepth 100000 in
theorem e146_397 {L : Lo} {S : List Value} {h : Hp} {x0 x1 x2 x3 x4 x5 x6 x7 x8 x9 : Option Value} {v : Int32} : Run 146 397 (x0 :: x1 :: x2 :: x3 :: x4 :: x5 :: x6 :: x7 :: x8 :: x9 :: some (.int v) :: L) S h = Run 146 399 (x0 :: x1 :: x2 :: x3 :: x4 :: x5 :: x6 :: x7 :: x8 :: x9 :: some (.int v) :: L) (.int v :: S) h := Rg rfl
set_option maxRecDepth 100000 in
theorem e146_399 {L : Lo} {h : Hp} {a3 : Int32} {a2 : Int32} {a1 : Int32} {a0 : Nat} : Run 146 399 L [.int a3, .int a2, .int a1, .ref a0] h = (Run 132 0 [some (.ref a0), some (.int a1), some (.int a2), some (.int a3), none] [] h).bind fun o => aft 146 399 402 L [] o := Rc (c := 132) (As := [.ref a0, .int a1, .int a2, .int a3]) (S' := []) (pc' := 402) rfl
set_option maxRecDepth 100000 in
theorem e146_402 {L : Lo} {S : List Value} {h : Hp} {x : Int32} : Run 146 402 L (.int x :: S) h = if x = 0 then Run 146 405 L S h else Run 146 429 L S h := RbrN (c := cnd .ne x 0 = true) (off := 27) rfl rfl cnd_ne
set_option maxRecDepth 100000 in
theorem e146_405 {L : Lo} {S : List Value} {h : Hp} {x0 x1 x2 x3 x4 x5 x6 x7 x8 x9 x10 x11 : Option Value} {v : Int32} : Run 146 405 (x0 :: x1 :: x2 :: x3 :: x4 :: x5 :: x6 :: x7 :: x8 :: x9 :: x10 :: x11 :: some (.int v) :: L) S h = Run 146 407 (x0 :: x1 :: x2 :: x3 :: x4 :: x5 :: x6 :: x7 :: x8 :: x9 :: x10 :: x11 :: some (.int v) :: L) (.int v :: S) h := Rg rfl
set_option maxRecDepth 100000 in
theorem e146_407 {L : Lo} {S : List Value} {h : Hp} {x0 x1 x2 x3 x4 x5 x6 x7 x8 : Option Value} {v : Int32} : Run 146 407 (x0 :: x1 :: x2 :: x3 :: x4 :: x5 :: x6 :: x7 :: x8 :: some (.int v) :: L) S h = Run 146 409 (x0 :: x1 :: x2 :: x3 :: x4 :: x5 :: x6 :: x7 :: x8 :: some (.int v) :: L) (.int v :: S) h := Rg rfl
set_option maxRecDepth 100000 in
theorem e146_409 {L : Lo} {S : List Value} {h : Hp} {x z : Int32} : Run 146 409 L (.int z :: .int x :: S) h = if x = z then Run 146 412 L S h else Run 146 431 L S h := RbrN (c := cnd .ne x z = true) (off := 22) rfl rfl cnd_ne
set_option maxRecDepth 100000 in
theorem e146_412 {L : Lo} {S : List Value} {h : Hp} {x0 x1 x2 x3 x4 x5 x6 x7 x8 : Option Value} {v : Int32} : Run 146 412 (x0 :: x1 :: x2 :: x3 :: x4 :: x5 :: x6 :: x7 :: x8 :: some (.int v) :: L) S h = Run 146 414 (x0 :: x1 :: x2 :: x3 :: x4 :: x5 :: x6 :: x7 :: x8 :: some (.int v) :: L) (.int v :: S) h := Rg rfl
set_option maxRecDepth 100000 in
theorem e146_414 {L : Lo} {S : List Value} {h : Hp} {x : Int32} : Run 146 414 L (.int x :: S) h = if x ≤ 0 then Run 146 431 L S h else Run 146 417 L S h := Rbr (c := cnd .le x 0 = true) (off := 17) rfl rfl cnd_le
set_option maxRecDepth 100000 in
theorem e146_417 {L : Lo} {S : List Value} {h : Hp} : Run 146 417 L S h = Run 146 418 L (.int 2 :: S) h := Rg rfl
set_option maxRecDepth 100000 in
theorem e146_418 {L : Lo} {S : List Value} {h : Hp} {x0 x1 x2 x3 x4 x5 x6 x7 x8 x9 : Option Value} {v : Int32} : Run 146 418 (x0 :: x1 :: x2 :: x3 :: x4 :: x5 :: x6 :: x7 :: x8 :: x9 :: some (.int v) :: L) S h = Run 146 420 (x0 :: x1 :: x2 :: x3 :: x4 :: x5 :: x6 :: x7 :: x8 :: x9 :: some (.int v) :: L) (.int v :: S) h := Rg rfl
set_option maxRecDepth 100000 in
theorem e146_420 {L : Lo} {S : List Value} {h : Hp} {x z : Int32} : Run 146 420 L (.int z :: .int x :: S) h = Run 146 421 L (.int (x * z) :: S) h := Rg rfl
set_option maxRecDepth 100000 in
theorem e146_421 {L : Lo} {S : List Value} {h : Hp} {x0 x1 x2 x3 x4 x5 x6 x7 x8 x9 x10 : Option Value} {v : Int32} : Run 146 421 (x0 :: x1 :: x2 :: x3 :: x4 :: x5 :: x6 :: x7 :: x8 :: x9 :: x10 :: some (.int v) :: L) S h = Run 146 423 (x0 :: x1 :: x2 :: x3 :: x4 :: x5 :: x6 :: x7 :: x8 :: x9 :: x10 :: some (.int v) :: L) (.int v :: S) h := Rg rfl
set_option maxRecDepth 100000 in
theorem e146_423 {L : Lo} {S : List Value} {h : Hp} {x z : Int32} : Run 146 423 L (.int z :: .int x :: S) h = Run 146 424 L (.int (x + z) :: S) h := Rg rfl
set_option maxRecDepth 100000 in
theorem e146_424 {L : Lo} {S : List Value} {h : Hp} {x0 x1 x2 x3 x4 x5 x6 x7 : Option Value} {v : Int32} : Run 146 424 (x0 :: x1 :: x2 :: x3 :: x4 :: x5 :: x6 :: x7 :: some (.int v) :: L) S h = Run 146 426 (x0 :: x1 :: x2 :: x3 :: x4 :: x5 :: x6 :: x7 :: some (.int v) :: L) (.int v :: S) h := Rg rfl
set_option maxRecDepth 100000 in
theorem e146_426 {L : Lo} {S : List Value} {h : Hp} {x z : Int32} : Run 146 426 L (.int z :: .int x :: S) h = if z ≤ x then Run 146 431 L S h else Run 146 429 L S h := Rbr (c := cnd .ge x z = true) (off := 5) rfl rfl cnd_ge
set_option maxRecDepth 100000 in
theorem e146_429 {L : Lo} {S : List Value} {h : Hp} : Run 146 429 L S h = Run 146 430 L (.int 0 :: S) h := Rg rfl
set_option maxRecDepth 100000 in
theorem e146_430 {L : Lo} {h : Hp} {x : Int32} (hx : narrow .boolean (.int x) = .int x) : Run 146 430 L [.int x] h = some (.inl (some (.int x)), h) := Rd (if_pos hx)
set_option maxRecDepth 100000 in
theorem e146_431 {L : Lo} {S : List Value} {h : Hp} {x0 x1 x2 x3 x4 x5 x6 x7 x8 x9 x10 : Option Value} {v : Int32} : Run 146 431 (x0 :: x1 :: x2 :: x3 :: x4 :: x5 :: x6 :: x7 :: x8 :: x9 :: x10 :: some (.int v) :: L) S h = Run 146 434 (x0 :: x1 :: x2 :: x3 :: x4 :: x5 :: x6 :: x7 :: x8 :: x9 :: x10 :: some (.int (v + 1)) :: L) S h := Rg rfl
set_option maxRecDepth 100000 in
theorem e146_434 {L : Lo} {S : List Value} {h : Hp} : Run 146 434 L S h = Run 146 253 L S h := Rg rfl
set_option maxRecDepth 100000 in
theorem e146_437 {L : Lo} {S : List Value} {h : Hp} {x0 x1 x2 x3 x4 x5 x6 x7 x8 x9 : Option Value} {v : Int32} : Run 146 437 (x0 :: x1 :: x2 :: x3 :: x4 :: x5 :: x6 :: x7 :: x8 :: x9 :: some (.int v) :: L) S h = Run 146 440 (x0 :: x1 :: x2 :: x3 :: x4 :: x5 :: x6 :: x7 :: x8 :: x9 :: some (.int (v + 1)) :: L) S h := Rg rfl
set_option maxRecDepth 100000 in
theorem e146_440 {L : Lo} {S : List Value} {h : Hp} : Run 146 440 L S h = Run 146 240 L S h := Rg rfl
set_option maxRecDepth 100000 in
theorem e146_443 {L : Lo} {S : List Value} {h : Hp} {v : Nat} : Run 146 443 (some (.ref v) :: L) S h = Run 146 444 (some (.ref v) :: L) (.ref v :: S) h := Rg rfl
set_option maxRecDepth 100000 in
theorem e146_444 {L : Lo} {S : List Value} {h : Hp} {x0 : Option Value} {v : Int32} : Run 146 444 (x0 :: some (.int v) :: L) S h = Run 146 445 (x0 :: some (.int v) :: L) (.int v :: S) h := Rg rfl
set_option maxRecDepth 100000 in
theorem e146_445 {L : Lo} {h : Hp} {a1 : Int32} {a0 : Nat} : Run 146 445 L [.int a1, .ref a0] h = (Run 140 0 [some (.ref a0), some (.int a1), none] [] h).bind fun o => aft 146 445 448 L [] o := Rc (c := 140) (As := [.ref a0, .int a1]) (S' := []) (pc' := 448) rfl
set_option maxRecDepth 100000 in
theorem e146_448 {L : Lo} {S : List Value} {h : Hp} {x0 x1 x2 x3 x4 x5 x6 x7 x8 x9 : Option Value} {y : Option Value} {v : Int32} : Run 146 448 (x0 :: x1 :: x2 :: x3 :: x4 :: x5 :: x6 :: x7 :: x8 :: x9 :: y :: L) (.int v :: S) h = Run 146 450 (x0 :: x1 :: x2 :: x3 :: x4 :: x5 :: x6 :: x7 :: x8 :: ck x9 :: some (.int v) :: L) S h := Rg rfl
set_option maxRecDepth 100000 in
theorem e146_450 {L : Lo} {S : List Value} {h : Hp} {x0 x1 x2 x3 x4 x5 x6 x7 : Option Value} {v : Int32} : Run 146 450 (x0 :: x1 :: x2 :: x3 :: x4 :: x5 :: x6 :: x7 :: some (.int v) :: L) S h = Run 146 452 (x0 :: x1 :: x2 :: x3 :: x4 :: x5 :: x6 :: x7 :: some (.int v) :: L) (.int v :: S) h := Rg rfl
set_option maxRecDepth 100000 in
theorem e146_452 {L : Lo} {S : List Value} {h : Hp} : Run 146 452 L S h = Run 146 453 L (.int (-1) :: S) h := Rg rfl
set_option maxRecDepth 100000 in
theorem e146_453 {L : Lo} {S : List Value} {h : Hp} {x z : Int32} : Run 146 453 L (.int z :: .int x :: S) h = if x = z then Run 146 456 L S h else Run 146 460 L S h := RbrN (c := cnd .ne x z = true) (off := 7) rfl rfl cnd_ne
set_option maxRecDepth 100000 in
theorem e146_456 {L : Lo} {S : List Value} {h : Hp} : Run 146 456 L S h = Run 146 457 L (.int 1 :: S) h := Rg rfl
set_option maxRecDepth 100000 in
theorem e146_457 {L : Lo} {S : List Value} {h : Hp} : Run 146 457 L S h = Run 146 461 L S h := Rg rfl
set_option maxRecDepth 100000 in
theorem e146_460 {L : Lo} {S : List Value} {h : Hp} : Run 146 460 L S h = Run 146 461 L (.int 0 :: S) h := Rg rfl
set_option maxRecDepth 100000 in
theorem e146_461 {L : Lo} {S : List Value} {h : Hp} {x0 x1 x2 x3 x4 x5 x6 x7 x8 : Option Value} {v : Int32} : Run 146 461 (x0 :: x1 :: x2 :: x3 :: x4 :: x5 :: x6 :: x7 :: x8 :: some (.int v) :: L) S h = Run 146 463 (x0 :: x1 :: x2 :: x3 :: x4 :: x5 :: x6 :: x7 :: x8 :: some (.int v) :: L) (.int v :: S) h := Rg rfl
set_option maxRecDepth 100000 in
theorem e146_463 {L : Lo} {S : List Value} {h : Hp} {x : Int32} : Run 146 463 L (.int x :: S) h = if x = 0 then Run 146 466 L S h else Run 146 470 L S h := RbrN (c := cnd .ne x 0 = true) (off := 7) rfl rfl cnd_ne
set_option maxRecDepth 100000 in
theorem e146_466 {L : Lo} {S : List Value} {h : Hp} : Run 146 466 L S h = Run 146 467 L (.int 1 :: S) h := Rg rfl
set_option maxRecDepth 100000 in
theorem e146_467 {L : Lo} {S : List Value} {h : Hp} : Run 146 467 L S h = Run 146 471 L S h := Rg rfl
set_option maxRecDepth 100000 in
theorem e146_470 {L : Lo} {S : List Value} {h : Hp} : Run 146 470 L S h = Run 146 471 L (.int 0 :: S) h := Rg rfl
set_option maxRecDepth 100000 in
theorem e146_471 {L : Lo} {S : List Value} {h : Hp} {x z : Int32} : Run 146 471 L (.int z :: .int x :: S) h = if x = z then Run 146 474 L S h else Run 146 499 L S h := RbrN (c := cnd .ne x z = true) (off := 28) rfl rfl cnd_ne
set_option maxRecDepth 100000 in
theorem e146_474 {L : Lo} {S : List Value} {h : Hp} {v : Nat} : Run 146 474 (some (.ref v) :: L) S h = Run 146 475 (some (.ref v) :: L) (.ref v :: S) h := Rg rfl
set_option maxRecDepth 100000 in
theorem e146_475 {L : Lo} {h : Hp} {a0 : Nat} (hO : isO h a0 8 = true) : Run 146 475 L [.ref a0] h = (Run 108 0 [some (.ref a0), none, none, none, none] [] h).bind fun o => aft 146 475 478 L [] o := Rcv (c := 108) (As := []) (S' := []) (pc' := 478) 8 rfl hO
set_option maxRecDepth 100000 in
theorem e146_478 {L : Lo} {S : List Value} {h : Hp} {x0 x1 : Option Value} {v : Int64} : Run 146 478 (x0 :: x1 :: some (.long v) :: L) S h = Run 146 479 (x0 :: x1 :: some (.long v) :: L) (.long v :: S) h := Rg rfl
set_option maxRecDepth 100000 in
theorem e146_479 {L : Lo} {S : List Value} {h : Hp} {x z : Int64} : Run 146 479 L (.long z :: .long x :: S) h = Run 146 480 L (.int (lg_cmp x z) :: S) h := Rg rfl
set_option maxRecDepth 100000 in
theorem e146_480 {L : Lo} {S : List Value} {h : Hp} {x : Int32} : Run 146 480 L (.int x :: S) h = if x = 0 then Run 146 483 L S h else Run 146 499 L S h := RbrN (c := cnd .ne x 0 = true) (off := 19) rfl rfl cnd_ne
set_option maxRecDepth 100000 in
theorem e146_483 {L : Lo} {S : List Value} {h : Hp} {x0 x1 x2 x3 x4 x5 x6 x7 x8 x9 : Option Value} {v : Int32} : Run 146 483 (x0 :: x1 :: x2 :: x3 :: x4 :: x5 :: x6 :: x7 :: x8 :: x9 :: some (.int v) :: L) S h = Run 146 485 (x0 :: x1 :: x2 :: x3 :: x4 :: x5 :: x6 :: x7 :: x8 :: x9 :: some (.int v) :: L) (.int v :: S) h := Rg rfl
set_option maxRecDepth 100000 in
theorem e146_485 {L : Lo} {S : List Value} {h : Hp} {x : Int32} : Run 146 485 L (.int x :: S) h = if x < 0 then Run 146 499 L S h else Run 146 488 L S h := Rbr (c := cnd .lt x 0 = true) (off := 14) rfl rfl cnd_lt
set_option maxRecDepth 100000 in
theorem e146_488 {L : Lo} {S : List Value} {h : Hp} {x0 x1 x2 x3 x4 x5 x6 x7 x8 x9 : Option Value} {v : Int32} : Run 146 488 (x0 :: x1 :: x2 :: x3 :: x4 :: x5 :: x6 :: x7 :: x8 :: x9 :: some (.int v) :: L) S h = Run 146 490 (x0 :: x1 :: x2 :: x3 :: x4 :: x5 :: x6 :: x7 :: x8 :: x9 :: some (.int v) :: L) (.int v :: S) h := Rg rfl
set_option maxRecDepth 100000 in
theorem e146_490 {L : Lo} {S : List Value} {h : Hp} : Run 146 490 L S h = Run 146 492 L (.int 6 :: S) h := Rg rfl
set_option maxRecDepth 100000 in
theorem e146_492 {L : Lo} {S : List Value} {h : Hp} {x z : Int32} : Run 146 492 L (.int z :: .int x :: S) h = if z ≤ x then Run 146 499 L S h else Run 146 495 L S h := Rbr (c := cnd .ge x z = true) (off := 7) rfl rfl cnd_ge
set_option maxRecDepth 100000 in
theorem e146_495 {L : Lo} {S : List Value} {h : Hp} : Run 146 495 L S h = Run 146 496 L (.int 1 :: S) h := Rg rfl
set_option maxRecDepth 100000 in
theorem e146_496 {L : Lo} {S : List Value} {h : Hp} : Run 146 496 L S h = Run 146 500 L S h := Rg rfl
set_option maxRecDepth 100000 in
theorem e146_499 {L : Lo} {S : List Value} {h : Hp} : Run 146 499 L S h = Run 146 500 L (.int 0 :: S) h := Rg rfl
set_option maxRecDepth 100000 in
theorem e146_500 {L : Lo} {S : List Value} {h : Hp} {x0 x1 x2 x3 x4 x5 x6 x7 x8 x9 x10 : Option Value} {y : Option Value} {v : Int32} : Run 146 500 (x0 :: x1 :: x2 :: x3 :: x4 :: x5 :: x6 :: x7 :: x8 :: x9 :: x10 :: y :: L) (.int v :: S) h = Run 146 502 (x0 :: x1 :: x2 :: x3 :: x4 :: x5 :: x6 :: x7 :: x8 :: x9 :: ck x10 :: some (.int v) :: L) S h := Rg rfl
set_option maxRecDepth 100000 in
theorem e146_502 {L : Lo} {S : List Value} {h : Hp} {v : Nat} : Run 146 502 (some (.ref v) :: L) S h = Run 146 503 (some (.ref v) :: L) (.ref v :: S) h := Rg rfl
set_option maxRecDepth 100000 in
theorem e146_503 {L : Lo} {S : List Value} {h : Hp} : Run 146 503 L S h = Run 146 504 L (.int 2 :: S) h := Rg rfl
set_option maxRecDepth 100000 in
theorem e146_504 {L : Lo} {h : Hp} {a1 : Int32} {a0 : Nat} : Run 146 504 L [.int a1, .ref a0] h = (Run 125 0 [some (.ref a0), some (.int a1), none] [] h).bind fun o => aft 146 504 507 L [] o := Rc (c := 125) (As := [.ref a0, .int a1]) (S' := []) (pc' := 507) rfl
set_option maxRecDepth 100000 in
theorem e146_507 {L : Lo} {S : List Value} {h : Hp} {x0 x1 x2 x3 x4 x5 x6 x7 x8 x9 x10 x11 : Option Value} {y : Option Value} {v : Int32} : Run 146 507 (x0 :: x1 :: x2 :: x3 :: x4 :: x5 :: x6 :: x7 :: x8 :: x9 :: x10 :: x11 :: y :: L) (.int v :: S) h = Run 146 509 (x0 :: x1 :: x2 :: x3 :: x4 :: x5 :: x6 :: x7 :: x8 :: x9 :: x10 :: ck x11 :: some (.int v) :: L) S h := Rg rfl
set_option maxRecDepth 100000 in
theorem e146_509 {L : Lo} {S : List Value} {h : Hp} {v : Nat} : Run 146 509 (some (.ref v) :: L) S h = Run 146 510 (some (.ref v) :: L) (.ref v :: S) h := Rg rfl
set_option maxRecDepth 100000 in
theorem e146_510 {L : Lo} {S : List Value} {h : Hp} : Run 146 510 L S h = Run 146 511 L (.int 3 :: S) h := Rg rfl
set_option maxRecDepth 100000 in
theorem e146_511 {L : Lo} {h : Hp} {a1 : Int32} {a0 : Nat} : Run 146 511 L [.int a1, .ref a0] h = (Run 125 0 [some (.ref a0), some (.int a1), none] [] h).bind fun o => aft 146 511 514 L [] o := Rc (c := 125) (As := [.ref a0, .int a1]) (S' := []) (pc' := 514) rfl
set_option maxRecDepth 100000 in
theorem e146_514 {L : Lo} {S : List Value} {h : Hp} {x0 x1 x2 x3 x4 x5 x6 x7 x8 x9 x10 x11 x12 : Option Value} {y : Option Value} {v : Int32} : Run 146 514 (x0 :: x1 :: x2 :: x3 :: x4 :: x5 :: x6 :: x7 :: x8 :: x9 :: x10 :: x11 :: x12 :: y :: L) (.int v :: S) h = Run 146 516 (x0 :: x1 :: x2 :: x3 :: x4 :: x5 :: x6 :: x7 :: x8 :: x9 :: x10 :: x11 :: ck x12 :: some (.int v) :: L) S h := Rg rfl
set_option maxRecDepth 100000 in
theorem e146_516 {L : Lo} {S : List Value} {h : Hp} {x0 x1 x2 x3 x4 x5 x6 x7 x8 x9 x10 : Option Value} {v : Int32} : Run 146 516 (x0 :: x1 :: x2 :: x3 :: x4 :: x5 :: x6 :: x7 :: x8 :: x9 :: x10 :: some (.int v) :: L) S h = Run 146 518 (x0 :: x1 :: x2 :: x3 :: x4 :: x5 :: x6 :: x7 :: x8 :: x9 :: x10 :: some (.int v) :: L) (.int v :: S) h := Rg rfl
set_option maxRecDepth 100000 in
theorem e146_518 {L : Lo} {S : List Value} {h : Hp} {x : Int32} : Run 146 518 L (.int x :: S) h = if x = 0 then Run 146 534 L S h else Run 146 521 L S h := Rbr (c := cnd .eq x 0 = true) (off := 16) rfl rfl cnd_eq
set_option maxRecDepth 100000 in
theorem e146_521 {L : Lo} {S : List Value} {h : Hp} {v : Nat} : Run 146 521 (some (.ref v) :: L) S h = Run 146 522 (some (.ref v) :: L) (.ref v :: S) h := Rg rfl
set_option maxRecDepth 100000 in
theorem e146_522 {L : Lo} {S : List Value} {h : Hp} {x0 x1 x2 x3 x4 x5 x6 x7 x8 x9 : Option Value} {v : Int32} : Run 146 522 (x0 :: x1 :: x2 :: x3 :: x4 :: x5 :: x6 :: x7 :: x8 :: x9 :: some (.int v) :: L) S h = Run 146 524 (x0 :: x1 :: x2 :: x3 :: x4 :: x5 :: x6 :: x7 :: x8 :: x9 :: some (.int v) :: L) (.int v :: S) h := Rg rfl
set_option maxRecDepth 100000 in
theorem e146_524 {L : Lo} {S : List Value} {h : Hp} {x0 x1 x2 x3 x4 x5 x6 x7 x8 x9 x10 x11 x12 : Option Value} {v : Int32} : Run 146 524 (x0 :: x1 :: x2 :: x3 :: x4 :: x5 :: x6 :: x7 :: x8 :: x9 :: x10 :: x11 :: x12 :: some (.int v) :: L) S h = Run 146 526 (x0 :: x1 :: x2 :: x3 :: x4 :: x5 :: x6 :: x7 :: x8 :: x9 :: x10 :: x11 :: x12 :: some (.int v) :: L) (.int v :: S) h := Rg rfl
set_option maxRecDepth 100000 in
theorem e146_526 {L : Lo} {h : Hp} {a2 : Int32} {a1 : Int32} {a0 : Nat} : Run 146 526 L [.int a2, .int a1, .ref a0] h = (Run 123 0 [some (.ref a0), some (.int a1), some (.int a2), none] [] h).bind fun o => aft 146 526 529 L [] o := Rc (c := 123) (As := [.ref a0, .int a1, .int a2]) (S' := []) (pc' := 529) rfl
set_option maxRecDepth 100000 in
theorem e146_529 {L : Lo} {S : List Value} {h : Hp} {x0 x1 x2 x3 x4 x5 x6 x7 x8 x9 x10 x11 : Option Value} {v : Int32} : Run 146 529 (x0 :: x1 :: x2 :: x3 :: x4 :: x5 :: x6 :: x7 :: x8 :: x9 :: x10 :: x11 :: some (.int v) :: L) S h = Run 146 531 (x0 :: x1 :: x2 :: x3 :: x4 :: x5 :: x6 :: x7 :: x8 :: x9 :: x10 :: x11 :: some (.int v) :: L) (.int v :: S) h := Rg rfl
set_option maxRecDepth 100000 in
theorem e146_531 {L : Lo} {S : List Value} {h : Hp} {x z : Int32} : Run 146 531 L (.int z :: .int x :: S) h = if x = z then Run 146 536 L S h else Run 146 534 L S h := Rbr (c := cnd .eq x z = true) (off := 5) rfl rfl cnd_eq
set_option maxRecDepth 100000 in
theorem e146_534 {L : Lo} {S : List Value} {h : Hp} : Run 146 534 L S h = Run 146 535 L (.int 0 :: S) h := Rg rfl
set_option maxRecDepth 100000 in
theorem e146_535 {L : Lo} {h : Hp} {x : Int32} (hx : narrow .boolean (.int x) = .int x) : Run 146 535 L [.int x] h = some (.inl (some (.int x)), h) := Rd (if_pos hx)
set_option maxRecDepth 100000 in
theorem e146_536 {L : Lo} {S : List Value} {h : Hp} {v : Nat} : Run 146 536 (some (.ref v) :: L) S h = Run 146 537 (some (.ref v) :: L) (.ref v :: S) h := Rg rfl
set_option maxRecDepth 100000 in
theorem e146_537 {L : Lo} {S : List Value} {h : Hp} {x0 : Option Value} {v : Int32} : Run 146 537 (x0 :: some (.int v) :: L) S h = Run 146 538 (x0 :: some (.int v) :: L) (.int v :: S) h := Rg rfl
set_option maxRecDepth 100000 in
theorem e146_538 {L : Lo} {S : List Value} {h : Hp} : Run 146 538 L S h = Run 146 540 L (.int 12 :: S) h := Rg rfl
set_option maxRecDepth 100000 in
theorem e146_540 {L : Lo} {h : Hp} {a2 : Int32} {a1 : Int32} {a0 : Nat} : Run 146 540 L [.int a2, .int a1, .ref a0] h = (Run 126 0 [some (.ref a0), some (.int a1), some (.int a2), none] [] h).bind fun o => aft 146 540 543 L [] o := Rc (c := 126) (As := [.ref a0, .int a1, .int a2]) (S' := []) (pc' := 543) rfl
set_option maxRecDepth 100000 in
theorem e146_543 {L : Lo} {S : List Value} {h : Hp} {x0 x1 x2 x3 x4 x5 x6 x7 x8 x9 x10 x11 x12 x13 : Option Value} {y : Option Value} {v : Int32} : Run 146 543 (x0 :: x1 :: x2 :: x3 :: x4 :: x5 :: x6 :: x7 :: x8 :: x9 :: x10 :: x11 :: x12 :: x13 :: y :: L) (.int v :: S) h = Run 146 545 (x0 :: x1 :: x2 :: x3 :: x4 :: x5 :: x6 :: x7 :: x8 :: x9 :: x10 :: x11 :: x12 :: ck x13 :: some (.int v) :: L) S h := Rg rfl
set_option maxRecDepth 100000 in
theorem e146_545 {L : Lo} {S : List Value} {h : Hp} {v : Nat} : Run 146 545 (some (.ref v) :: L) S h = Run 146 546 (some (.ref v) :: L) (.ref v :: S) h := Rg rfl
set_option maxRecDepth 100000 in
theorem e146_546 {L : Lo} {S : List Value} {h : Hp} {x0 x1 x2 x3 x4 x5 x6 x7 x8 x9 : Option Value} {v : Int32} : Run 146 546 (x0 :: x1 :: x2 :: x3 :: x4 :: x5 :: x6 :: x7 :: x8 :: x9 :: some (.int v) :: L) S h = Run 146 548 (x0 :: x1 :: x2 :: x3 :: x4 :: x5 :: x6 :: x7 :: x8 :: x9 :: some (.int v) :: L) (.int v :: S) h := Rg rfl
set_option maxRecDepth 100000 in
theorem e146_548 {L : Lo} {S : List Value} {h : Hp} : Run 146 548 L S h = Run 146 549 L (.int 1 :: S) h := Rg rfl
set_option maxRecDepth 100000 in
theorem e146_549 {L : Lo} {S : List Value} {h : Hp} {x z : Int32} : Run 146 549 L (.int z :: .int x :: S) h = Run 146 550 L (.int (x + z) :: S) h := Rg rfl
set_option maxRecDepth 100000 in
theorem e146_550 {L : Lo} {S : List Value} {h : Hp} : Run 146 550 L S h = Run 146 552 L (.int 6 :: S) h := Rg rfl
set_option maxRecDepth 100000 in
theorem e146_552 {L : Lo} {S : List Value} {h : Hp} {x z : Int32} (hz : ¬ z = 0) : Run 146 552 L (.int z :: .int x :: S) h = Run 146 553 L (.int (x - x / z * z) :: S) h := Rg (if_neg hz)
set_option maxRecDepth 100000 in
theorem e146_553 {L : Lo} {S : List Value} {h : Hp} {x0 x1 x2 x3 x4 x5 x6 x7 x8 x9 x10 x11 x12 : Option Value} {v : Int32} : Run 146 553 (x0 :: x1 :: x2 :: x3 :: x4 :: x5 :: x6 :: x7 :: x8 :: x9 :: x10 :: x11 :: x12 :: some (.int v) :: L) S h = Run 146 555 (x0 :: x1 :: x2 :: x3 :: x4 :: x5 :: x6 :: x7 :: x8 :: x9 :: x10 :: x11 :: x12 :: some (.int v) :: L) (.int v :: S) h := Rg rfl
set_option maxRecDepth 100000 in
theorem e146_555 {L : Lo} {h : Hp} {a2 : Int32} {a1 : Int32} {a0 : Nat} : Run 146 555 L [.int a2, .int a1, .ref a0] h = (Run 123 0 [some (.ref a0), some (.int a1), some (.int a2), none] [] h).bind fun o => aft 146 555 558 L [] o := Rc (c := 123) (As := [.ref a0, .int a1, .int a2]) (S' := []) (pc' := 558) rfl
set_option maxRecDepth 100000 in
theorem e146_558 {L : Lo} {S : List Value} {h : Hp} {x0 x1 x2 x3 x4 x5 x6 x7 x8 x9 : Option Value} {v : Int32} : Run 146 558 (x0 :: x1 :: x2 :: x3 :: x4 :: x5 :: x6 :: x7 :: x8 :: x9 :: some (.int v) :: L) S h = Run 146 560 (x0 :: x1 :: x2 :: x3 :: x4 :: x5 :: x6 :: x7 :: x8 :: x9 :: some (.int v) :: L) (.int v :: S) h := Rg rfl
set_option maxRecDepth 100000 in
theorem e146_560 {L : Lo} {S : List Value} {h : Hp} {x z : Int32} : Run 146 560 L (.int z :: .int x :: S) h = if x = z then Run 146 563 L S h else Run 146 599 L S h := RbrN (c := cnd .ne x z = true) (off := 39) rfl rfl cnd_ne
set_option maxRecDepth 100000 in
theorem e146_563 {L : Lo} {S : List Value} {h : Hp} {v : Nat} : Run 146 563 (some (.ref v) :: L) S h = Run 146 564 (some (.ref v) :: L) (.ref v :: S) h := Rg rfl
set_option maxRecDepth 100000 in
theorem e146_564 {L : Lo} {S : List Value} {h : Hp} {x0 : Option Value} {v : Int32} : Run 146 564 (x0 :: some (.int v) :: L) S h = Run 146 565 (x0 :: some (.int v) :: L) (.int v :: S) h := Rg rfl
set_option maxRecDepth 100000 in
theorem e146_565 {L : Lo} {S : List Value} {h : Hp} : Run 146 565 L S h = Run 146 567 L (.int 12 :: S) h := Rg rfl
set_option maxRecDepth 100000 in
theorem e146_567 {L : Lo} {h : Hp} {a2 : Int32} {a1 : Int32} {a0 : Nat} : Run 146 567 L [.int a2, .int a1, .ref a0] h = (Run 126 0 [some (.ref a0), some (.int a1), some (.int a2), none] [] h).bind fun o => aft 146 567 570 L [] o := Rc (c := 126) (As := [.ref a0, .int a1, .int a2]) (S' := []) (pc' := 570) rfl
set_option maxRecDepth 100000 in
theorem e146_570 {L : Lo} {S : List Value} {h : Hp} {x0 x1 x2 x3 x4 x5 x6 x7 x8 x9 x10 x11 x12 x13 : Option Value} {v : Int32} : Run 146 570 (x0 :: x1 :: x2 :: x3 :: x4 :: x5 :: x6 :: x7 :: x8 :: x9 :: x10 :: x11 :: x12 :: x13 :: some (.int v) :: L) S h = Run 146 572 (x0 :: x1 :: x2 :: x3 :: x4 :: x5 :: x6 :: x7 :: x8 :: x9 :: x10 :: x11 :: x12 :: x13 :: some (.int v) :: L) (.int v :: S) h := Rg rfl
set_option maxRecDepth 100000 in
theorem e146_572 {L : Lo} {S : List Value} {h : Hp} {x z : Int32} : Run 146 572 L (.int z :: .int x :: S) h = if z < x then Run 146 599 L S h else Run 146 575 L S h := Rbr (c := cnd .gt x z = true) (off := 27) rfl rfl cnd_gt
set_option maxRecDepth 100000 in
theorem e146_575 {L : Lo} {S : List Value} {h : Hp} {v : Nat} : Run 146 575 (some (.ref v) :: L) S h = Run 146 576 (some (.ref v) :: L) (.ref v :: S) h := Rg rfl
set_option maxRecDepth 100000 in
theorem e146_576 {L : Lo} {h : Hp} {a0 : Nat} : Run 146 576 L [.ref a0] h = (Run 143 0 [some (.ref a0), none] [] h).bind fun o => aft 146 576 579 L [] o := Rc (c := 143) (As := [.ref a0]) (S' := []) (pc' := 579) rfl
set_option maxRecDepth 100000 in
theorem e146_579 {L : Lo} {S : List Value} {h : Hp} {x : Int32} : Run 146 579 L (.int x :: S) h = if x < 0 then Run 146 599 L S h else Run 146 582 L S h := Rbr (c := cnd .lt x 0 = true) (off := 20) rfl rfl cnd_lt
set_option maxRecDepth 100000 in
theorem e146_582 {L : Lo} {S : List Value} {h : Hp} {v : Nat} : Run 146 582 (some (.ref v) :: L) S h = Run 146 583 (some (.ref v) :: L) (.ref v :: S) h := Rg rfl
set_option maxRecDepth 100000 in
theorem e146_583 {L : Lo} {h : Hp} {a0 : Nat} : Run 146 583 L [.ref a0] h = (Run 143 0 [some (.ref a0), none] [] h).bind fun o => aft 146 583 586 L [] o := Rc (c := 143) (As := [.ref a0]) (S' := []) (pc' := 586) rfl
set_option maxRecDepth 100000 in
theorem e146_586 {L : Lo} {S : List Value} {h : Hp} {x : Int32} : Run 146 586 L (.int x :: S) h = if x < 0 then Run 146 599 L S h else Run 146 589 L S h := Rbr (c := cnd .lt x 0 = true) (off := 13) rfl rfl cnd_lt
set_option maxRecDepth 100000 in
theorem e146_589 {L : Lo} {S : List Value} {h : Hp} {v : Nat} : Run 146 589 (some (.ref v) :: L) S h = Run 146 590 (some (.ref v) :: L) (.ref v :: S) h := Rg rfl
set_option maxRecDepth 100000 in
theorem e146_590 {L : Lo} {S : List Value} {h : Hp} : Run 146 590 L S h = Run 146 591 L (.int 2 :: S) h := Rg rfl
set_option maxRecDepth 100000 in
theorem e146_591 {L : Lo} {h : Hp} {a1 : Int32} {a0 : Nat} : Run 146 591 L [.int a1, .ref a0] h = (Run 125 0 [some (.ref a0), some (.int a1), none] [] h).bind fun o => aft 146 591 594 L [] o := Rc (c := 125) (As := [.ref a0, .int a1]) (S' := []) (pc' := 594) rfl
set_option maxRecDepth 100000 in
theorem e146_594 {L : Lo} {S : List Value} {h : Hp} {x0 x1 x2 x3 x4 x5 x6 x7 x8 x9 x10 x11 : Option Value} {v : Int32} : Run 146 594 (x0 :: x1 :: x2 :: x3 :: x4 :: x5 :: x6 :: x7 :: x8 :: x9 :: x10 :: x11 :: some (.int v) :: L) S h = Run 146 596 (x0 :: x1 :: x2 :: x3 :: x4 :: x5 :: x6 :: x7 :: x8 :: x9 :: x10 :: x11 :: some (.int v) :: L) (.int v :: S) h := Rg rfl
set_option maxRecDepth 100000 in
theorem e146_596 {L : Lo} {S : List Value} {h : Hp} {x z : Int32} : Run 146 596 L (.int z :: .int x :: S) h = if x = z then Run 146 601 L S h else Run 146 599 L S h := Rbr (c := cnd .eq x z = true) (off := 5) rfl rfl cnd_eq
set_option maxRecDepth 100000 in
theorem e146_599 {L : Lo} {S : List Value} {h : Hp} : Run 146 599 L S h = Run 146 600 L (.int 0 :: S) h := Rg rfl
set_option maxRecDepth 100000 in
theorem e146_600 {L : Lo} {h : Hp} {x : Int32} (hx : narrow .boolean (.int x) = .int x) : Run 146 600 L [.int x] h = some (.inl (some (.int x)), h) := Rd (if_pos hx)
set_option maxRecDepth 100000 in
theorem e146_601 {L : Lo} {S : List Value} {h : Hp} : Run 146 601 L S h = Run 146 602 L (.int 1 :: S) h := Rg rfl
set_option maxRecDepth 100000 in
theorem e146_602 {L : Lo} {h : Hp} {x : Int32} (hx : narrow .boolean (.int x) = .int x) : Run 146 602 L [.int x] h = some (.inl (some (.int x)), h) := Rd (if_pos hx)
set_option maxRecDepth 100000 in
theorem e147_0 {L : Lo} {S : List Value} {h : Hp} {v : Nat} : Run 147 0 (some (.ref v) :: L) S h = Run 147 1 (some (.ref v) :: L) (.ref v :: S) h := Rg rfl
set_option maxRecDepth 100000 in
theorem e147_1 {L : Lo} {S : List Value} {h : Hp} {x0 : Option Value} {v : Int32} : Run 147 1 (x0 :: some (.int v) :: L) S h = Run 147 2 (x0 :: some (.int v) :: L) (.int v :: S) h := Rg rfl
set_option maxRecDepth 100000 in
theorem e147_2 {L : Lo} {S : List Value} {h : Hp} : Run 147 2 L S h = Run 147 3 L (.int 1 :: S) h := Rg rfl
set_option maxRecDepth 100000 in
theorem e147_3 {L : Lo} {h : Hp} {a2 : Int32} {a1 : Int32} {a0 : Nat} : Run 147 3 L [.int a2, .int a1, .ref a0] h = (Run 126 0 [some (.ref a0), some (.int a1), some (.int a2), none] [] h).bind fun o => aft 147 3 6 L [] o := Rc (c := 126) (As := [.ref a0, .int a1, .int a2]) (S' := []) (pc' := 6) rfl
set_option maxRecDepth 100000 in
theorem e147_6 {L : Lo} {S : List Value} {h : Hp} {x0 x1 x2 : Option Value} {y : Option Value} {v : Int32} : Run 147 6 (x0 :: x1 :: x2 :: y :: L) (.int v :: S) h = Run 147 7 (x0 :: x1 :: ck x2 :: some (.int v) :: L) S h := Rg rfl
set_option maxRecDepth 100000 in
theorem e147_7 {L : Lo} {S : List Value} {h : Hp} {v : Nat} : Run 147 7 (some (.ref v) :: L) S h = Run 147 8 (some (.ref v) :: L) (.ref v :: S) h := Rg rfl
set_option maxRecDepth 100000 in
theorem e147_8 {L : Lo} {S : List Value} {h : Hp} {x0 : Option Value} {v : Int32} : Run 147 8 (x0 :: some (.int v) :: L) S h = Run 147 9 (x0 :: some (.int v) :: L) (.int v :: S) h := Rg rfl
set_option maxRecDepth 100000 in
theorem e147_9 {L : Lo} {S : List Value} {h : Hp} : Run 147 9 L S h = Run 147 10 L (.int 2 :: S) h := Rg rfl
set_option maxRecDepth 100000 in
theorem e147_10 {L : Lo} {h : Hp} {a2 : Int32} {a1 : Int32} {a0 : Nat} : Run 147 10 L [.int a2, .int a1, .ref a0] h = (Run 126 0 [some (.ref a0), some (.int a1), some (.int a2), none] [] h).bind fun o => aft 147 10 13 L [] o := Rc (c := 126) (As := [.ref a0, .int a1, .int a2]) (S' := []) (pc' := 13) rfl
set_option maxRecDepth 100000 in
theorem e147_13 {L : Lo} {S : List Value} {h : Hp} {x0 x1 x2 x3 : Option Value} {y : Option Value} {v : Int32} : Run 147 13 (x0 :: x1 :: x2 :: x3 :: y :: L) (.int v :: S) h = Run 147 15 (x0 :: x1 :: x2 :: ck x3 :: some (.int v) :: L) S h := Rg rfl
set_option maxRecDepth 100000 in
theorem e147_15 {L : Lo} {S : List Value} {h : Hp} {v : Nat} : Run 147 15 (some (.ref v) :: L) S h = Run 147 16 (some (.ref v) :: L) (.ref v :: S) h := Rg rfl
set_option maxRecDepth 100000 in
theorem e147_16 {L : Lo} {S : List Value} {h : Hp} {x0 : Option Value} {v : Int32} : Run 147 16 (x0 :: some (.int v) :: L) S h = Run 147 17 (x0 :: some (.int v) :: L) (.int v :: S) h := Rg rfl
set_option maxRecDepth 100000 in
theorem e147_17 {L : Lo} {S : List Value} {h : Hp} : Run 147 17 L S h = Run 147 19 L (.int 8 :: S) h := Rg rfl
set_option maxRecDepth 100000 in
theorem e147_19 {L : Lo} {h : Hp} {a2 : Int32} {a1 : Int32} {a0 : Nat} : Run 147 19 L [.int a2, .int a1, .ref a0] h = (Run 126 0 [some (.ref a0), some (.int a1), some (.int a2), none] [] h).bind fun o => aft 147 19 22 L [] o := Rc (c := 126) (As := [.ref a0, .int a1, .int a2]) (S' := []) (pc' := 22) rfl
set_option maxRecDepth 100000 in
theorem e147_22 {L : Lo} {S : List Value} {h : Hp} {x0 x1 x2 x3 x4 : Option Value} {y : Option Value} {v : Int32} : Run 147 22 (x0 :: x1 :: x2 :: x3 :: x4 :: y :: L) (.int v :: S) h = Run 147 24 (x0 :: x1 :: x2 :: x3 :: ck x4 :: some (.int v) :: L) S h := Rg rfl
set_option maxRecDepth 100000 in
theorem e147_24 {L : Lo} {S : List Value} {h : Hp} {v : Nat} : Run 147 24 (some (.ref v) :: L) S h = Run 147 25 (some (.ref v) :: L) (.ref v :: S) h := Rg rfl
set_option maxRecDepth 100000 in
theorem e147_25 {L : Lo} {S : List Value} {h : Hp} {x0 : Option Value} {v : Int32} : Run 147 25 (x0 :: some (.int v) :: L) S h = Run 147 26 (x0 :: some (.int v) :: L) (.int v :: S) h := Rg rfl
set_option maxRecDepth 100000 in
theorem e147_26 {L : Lo} {S : List Value} {h : Hp} : Run 147 26 L S h = Run 147 27 L (.int 3 :: S) h := Rg rfl
set_option maxRecDepth 100000 in
theorem e147_27 {L : Lo} {h : Hp} {a2 : Int32} {a1 : Int32} {a0 : Nat} : Run 147 27 L [.int a2, .int a1, .ref a0] h = (Run 126 0 [some (.ref a0), some (.int a1), some (.int a2), none] [] h).bind fun o => aft 147 27 30 L [] o := Rc (c := 126) (As := [.ref a0, .int a1, .int a2]) (S' := []) (pc' := 30) rfl
set_option maxRecDepth 100000 in
theorem e147_30 {L : Lo} {S : List Value} {h : Hp} {x : Int32} : Run 147 30 L (.int x :: S) h = if x ≤ 0 then Run 147 62 L S h else Run 147 33 L S h := Rbr (c := cnd .le x 0 = true) (off := 32) rfl rfl cnd_le
set_option maxRecDepth 100000 in
theorem e147_33 {L : Lo} {S : List Value} {h : Hp} {v : Nat} : Run 147 33 (some (.ref v) :: L) S h = Run 147 34 (some (.ref v) :: L) (.ref v :: S) h := Rg rfl
set_option maxRecDepth 100000 in
theorem e147_34 {L : Lo} {S : List Value} {h : Hp} {x0 : Option Value} {v : Int32} : Run 147 34 (x0 :: some (.int v) :: L) S h = Run 147 35 (x0 :: some (.int v) :: L) (.int v :: S) h := Rg rfl
set_option maxRecDepth 100000 in
theorem e147_35 {L : Lo} {S : List Value} {h : Hp} : Run 147 35 L S h = Run 147 36 L (.int 4 :: S) h := Rg rfl
set_option maxRecDepth 100000 in
theorem e147_36 {L : Lo} {h : Hp} {a2 : Int32} {a1 : Int32} {a0 : Nat} : Run 147 36 L [.int a2, .int a1, .ref a0] h = (Run 126 0 [some (.ref a0), some (.int a1), some (.int a2), none] [] h).bind fun o => aft 147 36 39 L [] o := Rc (c := 126) (As := [.ref a0, .int a1, .int a2]) (S' := []) (pc' := 39) rfl
set_option maxRecDepth 100000 in
theorem e147_39 {L : Lo} {S : List Value} {h : Hp} {x : Int32} : Run 147 39 L (.int x :: S) h = if x ≤ 0 then Run 147 62 L S h else Run 147 42 L S h := Rbr (c := cnd .le x 0 = true) (off := 23) rfl rfl cnd_le
set_option maxRecDepth 100000 in
theorem e147_42 {L : Lo} {S : List Value} {h : Hp} {v : Nat} : Run 147 42 (some (.ref v) :: L) S h = Run 147 43 (some (.ref v) :: L) (.ref v :: S) h := Rg rfl
set_option maxRecDepth 100000 in
theorem e147_43 {L : Lo} {S : List Value} {h : Hp} {x0 : Option Value} {v : Int32} : Run 147 43 (x0 :: some (.int v) :: L) S h = Run 147 44 (x0 :: some (.int v) :: L) (.int v :: S) h := Rg rfl
set_option maxRecDepth 100000 in
theorem e147_44 {L : Lo} {S : List Value} {h : Hp} : Run 147 44 L S h = Run 147 46 L (.int 11 :: S) h := Rg rfl
set_option maxRecDepth 100000 in
theorem e147_46 {L : Lo} {h : Hp} {a2 : Int32} {a1 : Int32} {a0 : Nat} : Run 147 46 L [.int a2, .int a1, .ref a0] h = (Run 126 0 [some (.ref a0), some (.int a1), some (.int a2), none] [] h).bind fun o => aft 147 46 49 L [] o := Rc (c := 126) (As := [.ref a0, .int a1, .int a2]) (S' := []) (pc' := 49) rfl
set_option maxRecDepth 100000 in
theorem e147_49 {L : Lo} {S : List Value} {h : Hp} : Run 147 49 L S h = Run 147 50 L (.int (-1) :: S) h := Rg rfl
set_option maxRecDepth 100000 in
theorem e147_50 {L : Lo} {S : List Value} {h : Hp} {x z : Int32} : Run 147 50 L (.int z :: .int x :: S) h = if x = z then Run 147 53 L S h else Run 147 62 L S h := RbrN (c := cnd .ne x z = true) (off := 12) rfl rfl cnd_ne
set_option maxRecDepth 100000 in
theorem e147_53 {L : Lo} {S : List Value} {h : Hp} {x0 x1 x2 x3 x4 : Option Value} {v : Int32} : Run 147 53 (x0 :: x1 :: x2 :: x3 :: x4 :: some (.int v) :: L) S h = Run 147 55 (x0 :: x1 :: x2 :: x3 :: x4 :: some (.int v) :: L) (.int v :: S) h := Rg rfl
set_option maxRecDepth 100000 in
theorem e147_55 {L : Lo} {S : List Value} {h : Hp} {x : Int32} : Run 147 55 L (.int x :: S) h = if x ≤ 0 then Run 147 62 L S h else Run 147 58 L S h := Rbr (c := cnd .le x 0 = true) (off := 7) rfl rfl cnd_le
set_option maxRecDepth 100000 in
theorem e147_58 {L : Lo} {S : List Value} {h : Hp} : Run 147 58 L S h = Run 147 59 L (.int 1 :: S) h := Rg rfl
set_option maxRecDepth 100000 in
theorem e147_59 {L : Lo} {S : List Value} {h : Hp} : Run 147 59 L S h = Run 147 63 L S h := Rg rfl
set_option maxRecDepth 100000 in
theorem e147_62 {L : Lo} {S : List Value} {h : Hp} : Run 147 62 L S h = Run 147 63 L (.int 0 :: S) h := Rg rfl
set_option maxRecDepth 100000 in
theorem e147_63 {L : Lo} {S : List Value} {h : Hp} {x0 x1 x2 x3 x4 x5 : Option Value} {y : Option Value} {v : Int32} : Run 147 63 (x0 :: x1 :: x2 :: x3 :: x4 :: x5 :: y :: L) (.int v :: S) h = Run 147 65 (x0 :: x1 :: x2 :: x3 :: x4 :: ck x5 :: some (.int v) :: L) S h := Rg rfl
set_option maxRecDepth 100000 in
theorem e147_65 {L : Lo} {S : List Value} {h : Hp} {x0 x1 : Option Value} {v : Int32} : Run 147 65 (x0 :: x1 :: some (.int v) :: L) S h = Run 147 66 (x0 :: x1 :: some (.int v) :: L) (.int v :: S) h := Rg rfl
set_option maxRecDepth 100000 in
theorem e147_66 {L : Lo} {S : List Value} {h : Hp} : Run 147 66 L S h = Run 147 67 L (.int 2 :: S) h := Rg rfl
set_option maxRecDepth 100000 in
theorem e147_67 {L : Lo} {h : Hp} {a1 : Int32} {a0 : Int32} : Run 147 67 L [.int a1, .int a0] h = (Run 120 0 [some (.int a0), some (.int a1)] [] h).bind fun o => aft 147 67 70 L [] o := Rc (c := 120) (As := [.int a0, .int a1]) (S' := []) (pc' := 70) rfl
set_option maxRecDepth 100000 in
theorem e147_70 {L : Lo} {S : List Value} {h : Hp} {x : Int32} : Run 147 70 L (.int x :: S) h = if x = 0 then Run 147 73 L S h else Run 147 258 L S h := RbrN (c := cnd .ne x 0 = true) (off := 188) rfl rfl cnd_ne
set_option maxRecDepth 100000 in
theorem e147_73 {L : Lo} {S : List Value} {h : Hp} {v : Nat} : Run 147 73 (some (.ref v) :: L) S h = Run 147 74 (some (.ref v) :: L) (.ref v :: S) h := Rg rfl
set_option maxRecDepth 100000 in
theorem e147_74 {L : Lo} {S : List Value} {h : Hp} {x0 : Option Value} {v : Int32} : Run 147 74 (x0 :: some (.int v) :: L) S h = Run 147 75 (x0 :: some (.int v) :: L) (.int v :: S) h := Rg rfl
set_option maxRecDepth 100000 in
theorem e147_75 {L : Lo} {S : List Value} {h : Hp} : Run 147 75 L S h = Run 147 77 L (.int 13 :: S) h := Rg rfl
set_option maxRecDepth 100000 in
theorem e147_77 {L : Lo} {h : Hp} {a2 : Int32} {a1 : Int32} {a0 : Nat} : Run 147 77 L [.int a2, .int a1, .ref a0] h = (Run 126 0 [some (.ref a0), some (.int a1), some (.int a2), none] [] h).bind fun o => aft 147 77 80 L [] o := Rc (c := 126) (As := [.ref a0, .int a1, .int a2]) (S' := []) (pc' := 80) rfl
set_option maxRecDepth 100000 in
theorem e147_80 {L : Lo} {S : List Value} {h : Hp} : Run 147 80 L S h = Run 147 81 L (.int 3 :: S) h := Rg rfl
set_option maxRecDepth 100000 in
theorem e147_81 {L : Lo} {S : List Value} {h : Hp} {x z : Int32} : Run 147 81 L (.int z :: .int x :: S) h = if x = z then Run 147 84 L S h else Run 147 88 L S h := RbrN (c := cnd .ne x z = true) (off := 7) rfl rfl cnd_ne
set_option maxRecDepth 100000 in
theorem e147_84 {L : Lo} {S : List Value} {h : Hp} : Run 147 84 L S h = Run 147 85 L (.int 1 :: S) h := Rg rfl
set_option maxRecDepth 100000 in
theorem e147_85 {L : Lo} {S : List Value} {h : Hp} : Run 147 85 L S h = Run 147 89 L S h := Rg rfl
set_option maxRecDepth 100000 in
theorem e147_88 {L : Lo} {S : List Value} {h : Hp} : Run 147 88 L S h = Run 147 89 L (.int 0 :: S) h := Rg rfl
set_option maxRecDepth 100000 in
theorem e147_89 {L : Lo} {S : List Value} {h : Hp} {x0 x1 x2 x3 x4 x5 x6 : Option Value} {y : Option Value} {v : Int32} : Run 147 89 (x0 :: x1 :: x2 :: x3 :: x4 :: x5 :: x6 :: y :: L) (.int v :: S) h = Run 147 91 (x0 :: x1 :: x2 :: x3 :: x4 :: x5 :: ck x6 :: some (.int v) :: L) S h := Rg rfl
set_option maxRecDepth 100000 in
theorem e147_91 {L : Lo} {S : List Value} {h : Hp} {v : Nat} : Run 147 91 (some (.ref v) :: L) S h = Run 147 92 (some (.ref v) :: L) (.ref v :: S) h := Rg rfl
set_option maxRecDepth 100000 in
theorem e147_92 {L : Lo} {S : List Value} {h : Hp} {x0 : Option Value} {v : Int32} : Run 147 92 (x0 :: some (.int v) :: L) S h = Run 147 93 (x0 :: some (.int v) :: L) (.int v :: S) h := Rg rfl
set_option maxRecDepth 100000 in
theorem e147_93 {L : Lo} {h : Hp} {a1 : Int32} {a0 : Nat} : Run 147 93 L [.int a1, .ref a0] h = (Run 130 0 [some (.ref a0), some (.int a1), none] [] h).bind fun o => aft 147 93 96 L [] o := Rc (c := 130) (As := [.ref a0, .int a1]) (S' := []) (pc' := 96) rfl
set_option maxRecDepth 100000 in
theorem e147_96 {L : Lo} {S : List Value} {h : Hp} {x0 x1 x2 x3 x4 x5 x6 x7 : Option Value} {y : Option Value} {v : Int32} : Run 147 96 (x0 :: x1 :: x2 :: x3 :: x4 :: x5 :: x6 :: x7 :: y :: L) (.int v :: S) h = Run 147 98 (x0 :: x1 :: x2 :: x3 :: x4 :: x5 :: x6 :: ck x7 :: some (.int v) :: L) S h := Rg rfl
set_option maxRecDepth 100000 in
theorem e147_98 {L : Lo} {S : List Value} {h : Hp} {x0 x1 x2 x3 x4 x5 x6 x7 : Option Value} {v : Int32} : Run 147 98 (x0 :: x1 :: x2 :: x3 :: x4 :: x5 :: x6 :: x7 :: some (.int v) :: L) S h = Run 147 100 (x0 :: x1 :: x2 :: x3 :: x4 :: x5 :: x6 :: x7 :: some (.int v) :: L) (.int v :: S) h := Rg rfl
set_option maxRecDepth 100000 in
theorem e147_100 {L : Lo} {S : List Value} {h : Hp} : Run 147 100 L S h = Run 147 103 L (.int (-902) :: S) h := Rg rfl
set_option maxRecDepth 100000 in
theorem e147_103 {L : Lo} {S : List Value} {h : Hp} {x z : Int32} : Run 147 103 L (.int z :: .int x :: S) h = if x = z then Run 147 106 L S h else Run 147 134 L S h := RbrN (c := cnd .ne x z = true) (off := 31) rfl rfl cnd_ne
set_option maxRecDepth 100000 in
theorem e147_106 {L : Lo} {S : List Value} {h : Hp} {v : Nat} : Run 147 106 (some (.ref v) :: L) S h = Run 147 107 (some (.ref v) :: L) (.ref v :: S) h := Rg rfl
set_option maxRecDepth 100000 in
theorem e147_107 {L : Lo} {S : List Value} {h : Hp} {x0 : Option Value} {v : Int32} : Run 147 107 (x0 :: some (.int v) :: L) S h = Run 147 108 (x0 :: some (.int v) :: L) (.int v :: S) h := Rg rfl
set_option maxRecDepth 100000 in
theorem e147_108 {L : Lo} {S : List Value} {h : Hp} : Run 147 108 L S h = Run 147 109 L (.int 1 :: S) h := Rg rfl
set_option maxRecDepth 100000 in
theorem e147_109 {L : Lo} {h : Hp} {a2 : Int32} {a1 : Int32} {a0 : Nat} : Run 147 109 L [.int a2, .int a1, .ref a0] h = (Run 126 0 [some (.ref a0), some (.int a1), some (.int a2), none] [] h).bind fun o => aft 147 109 112 L [] o := Rc (c := 126) (As := [.ref a0, .int a1, .int a2]) (S' := []) (pc' := 112) rfl
set_option maxRecDepth 100000 in
theorem e147_112 {L : Lo} {S : List Value} {h : Hp} {x0 x1 x2 : Option Value} {v : Int32} : Run 147 112 (x0 :: x1 :: x2 :: some (.int v) :: L) S h = Run 147 113 (x0 :: x1 :: x2 :: some (.int v) :: L) (.int v :: S) h := Rg rfl
set_option maxRecDepth 100000 in
theorem e147_113 {L : Lo} {S : List Value} {h : Hp} {x z : Int32} : Run 147 113 L (.int z :: .int x :: S) h = if x = z then Run 147 116 L S h else Run 147 132 L S h := RbrN (c := cnd .ne x z = true) (off := 19) rfl rfl cnd_ne
set_option maxRecDepth 100000 in
theorem e147_116 {L : Lo} {S : List Value} {h : Hp} {v : Nat} : Run 147 116 (some (.ref v) :: L) S h = Run 147 117 (some (.ref v) :: L) (.ref v :: S) h := Rg rfl
set_option maxRecDepth 100000 in
theorem e147_117 {L : Lo} {S : List Value} {h : Hp} {x0 : Option Value} {v : Int32} : Run 147 117 (x0 :: some (.int v) :: L) S h = Run 147 118 (x0 :: some (.int v) :: L) (.int v :: S) h := Rg rfl
set_option maxRecDepth 100000 in
theorem e147_118 {L : Lo} {S : List Value} {h : Hp} : Run 147 118 L S h = Run 147 120 L (.int 8 :: S) h := Rg rfl
set_option maxRecDepth 100000 in
theorem e147_120 {L : Lo} {h : Hp} {a2 : Int32} {a1 : Int32} {a0 : Nat} : Run 147 120 L [.int a2, .int a1, .ref a0] h = (Run 126 0 [some (.ref a0), some (.int a1), some (.int a2), none] [] h).bind fun o => aft 147 120 123 L [] o := Rc (c := 126) (As := [.ref a0, .int a1, .int a2]) (S' := []) (pc' := 123) rfl
set_option maxRecDepth 100000 in
theorem e147_123 {L : Lo} {S : List Value} {h : Hp} {x0 x1 x2 x3 x4 : Option Value} {v : Int32} : Run 147 123 (x0 :: x1 :: x2 :: x3 :: x4 :: some (.int v) :: L) S h = Run 147 125 (x0 :: x1 :: x2 :: x3 :: x4 :: some (.int v) :: L) (.int v :: S) h := Rg rfl
set_option maxRecDepth 100000 in
theorem e147_125 {L : Lo} {S : List Value} {h : Hp} {x z : Int32} : Run 147 125 L (.int z :: .int x :: S) h = if x = z then Run 147 128 L S h else Run 147 132 L S h := RbrN (c := cnd .ne x z = true) (off := 7) rfl rfl cnd_ne
set_option maxRecDepth 100000 in
theorem e147_128 {L : Lo} {S : List Value} {h : Hp} : Run 147 128 L S h = Run 147 129 L (.int 1 :: S) h := Rg rfl
set_option maxRecDepth 100000 in
theorem e147_129 {L : Lo} {S : List Value} {h : Hp} : Run 147 129 L S h = Run 147 133 L S h := Rg rfl
set_option maxRecDepth 100000 in
theorem e147_132 {L : Lo} {S : List Value} {h : Hp} : Run 147 132 L S h = Run 147 133 L (.int 0 :: S) h := Rg rfl
set_option maxRecDepth 100000 in
theorem e147_133 {L : Lo} {h : Hp} {x : Int32} (hx : narrow .boolean (.int x) = .int x) : Run 147 133 L [.int x] h = some (.inl (some (.int x)), h) := Rd (if_pos hx)
set_option maxRecDepth 100000 in
theorem e147_134 {L : Lo} {S : List Value} {h : Hp} {x0 x1 x2 x3 x4 x5 : Option Value} {v : Int32} : Run 147 134 (x0 :: x1 :: x2 :: x3 :: x4 :: x5 :: some (.int v) :: L) S h = Run 147 136 (x0 :: x1 :: x2 :: x3 :: x4 :: x5 :: some (.int v) :: L) (.int v :: S) h := Rg rfl
set_option maxRecDepth 100000 in
theorem e147_136 {L : Lo} {S : List Value} {h : Hp} {x : Int32} : Run 147 136 L (.int x :: S) h = if x = 0 then Run 147 256 L S h else Run 147 139 L S h := Rbr (c := cnd .eq x 0 = true) (off := 120) rfl rfl cnd_eq
set_option maxRecDepth 100000 in
theorem e147_139 {L : Lo} {S : List Value} {h : Hp} {x0 x1 x2 x3 x4 x5 x6 : Option Value} {v : Int32} : Run 147 139 (x0 :: x1 :: x2 :: x3 :: x4 :: x5 :: x6 :: some (.int v) :: L) S h = Run 147 141 (x0 :: x1 :: x2 :: x3 :: x4 :: x5 :: x6 :: some (.int v) :: L) (.int v :: S) h := Rg rfl
set_option maxRecDepth 100000 in
theorem e147_141 {L : Lo} {S : List Value} {h : Hp} {x : Int32} : Run 147 141 L (.int x :: S) h = if x = 0 then Run 147 144 L S h else Run 147 256 L S h := RbrN (c := cnd .ne x 0 = true) (off := 115) rfl rfl cnd_ne
set_option maxRecDepth 100000 in
theorem e147_144 {L : Lo} {S : List Value} {h : Hp} {v : Nat} : Run 147 144 (some (.ref v) :: L) S h = Run 147 145 (some (.ref v) :: L) (.ref v :: S) h := Rg rfl
set_option maxRecDepth 100000 in
theorem e147_145 {L : Lo} {S : List Value} {h : Hp} {x0 : Option Value} {v : Int32} : Run 147 145 (x0 :: some (.int v) :: L) S h = Run 147 146 (x0 :: some (.int v) :: L) (.int v :: S) h := Rg rfl
set_option maxRecDepth 100000 in
theorem e147_146 {L : Lo} {S : List Value} {h : Hp} : Run 147 146 L S h = Run 147 147 L (.int 1 :: S) h := Rg rfl
set_option maxRecDepth 100000 in
theorem e147_147 {L : Lo} {h : Hp} {a2 : Int32} {a1 : Int32} {a0 : Nat} : Run 147 147 L [.int a2, .int a1, .ref a0] h = (Run 126 0 [some (.ref a0), some (.int a1), some (.int a2), none] [] h).bind fun o => aft 147 147 150 L [] o := Rc (c := 126) (As := [.ref a0, .int a1, .int a2]) (S' := []) (pc' := 150) rfl
set_option maxRecDepth 100000 in
theorem e147_150 {L : Lo} {S : List Value} {h : Hp} {x0 x1 x2 x3 x4 x5 x6 x7 : Option Value} {v : Int32} : Run 147 150 (x0 :: x1 :: x2 :: x3 :: x4 :: x5 :: x6 :: x7 :: some (.int v) :: L) S h = Run 147 152 (x0 :: x1 :: x2 :: x3 :: x4 :: x5 :: x6 :: x7 :: some (.int v) :: L) (.int v :: S) h := Rg rfl
set_option maxRecDepth 100000 in
theorem e147_152 {L : Lo} {S : List Value} {h : Hp} {x z : Int32} : Run 147 152 L (.int z :: .int x :: S) h = if x = z then Run 147 155 L S h else Run 147 256 L S h := RbrN (c := cnd .ne x z = true) (off := 104) rfl rfl cnd_ne
set_option maxRecDepth 100000 in
theorem e147_155 {L : Lo} {S : List Value} {h : Hp} {v : Nat} : Run 147 155 (some (.ref v) :: L) S h = Run 147 156 (some (.ref v) :: L) (.ref v :: S) h := Rg rfl
set_option maxRecDepth 100000 in
theorem e147_156 {L : Lo} {S : List Value} {h : Hp} {x0 x1 x2 : Option Value} {v : Int32} : Run 147 156 (x0 :: x1 :: x2 :: some (.int v) :: L) S h = Run 147 157 (x0 :: x1 :: x2 :: some (.int v) :: L) (.int v :: S) h := Rg rfl
set_option maxRecDepth 100000 in
theorem e147_157 {L : Lo} {S : List Value} {h : Hp} {x0 x1 x2 x3 x4 x5 x6 x7 : Option Value} {v : Int32} : Run 147 157 (x0 :: x1 :: x2 :: x3 :: x4 :: x5 :: x6 :: x7 :: some (.int v) :: L) S h = Run 147 159 (x0 :: x1 :: x2 :: x3 :: x4 :: x5 :: x6 :: x7 :: some (.int v) :: L) (.int v :: S) h := Rg rfl
set_option maxRecDepth 100000 in
theorem e147_159 {L : Lo} {h : Hp} {a2 : Int32} {a1 : Int32} {a0 : Nat} : Run 147 159 L [.int a2, .int a1, .ref a0] h = (Run 128 0 [some (.ref a0), some (.int a1), some (.int a2), none] [] h).bind fun o => aft 147 159 162 L [] o := Rc (c := 128) (As := [.ref a0, .int a1, .int a2]) (S' := []) (pc' := 162) rfl
set_option maxRecDepth 100000 in
theorem e147_162 {L : Lo} {S : List Value} {h : Hp} : Run 147 162 L S h = Run 147 163 L (.int 1 :: S) h := Rg rfl
set_option maxRecDepth 100000 in
theorem e147_163 {L : Lo} {S : List Value} {h : Hp} {x z : Int32} : Run 147 163 L (.int z :: .int x :: S) h = if x = z then Run 147 166 L S h else Run 147 256 L S h := RbrN (c := cnd .ne x z = true) (off := 93) rfl rfl cnd_ne
set_option maxRecDepth 100000 in
theorem e147_166 {L : Lo} {S : List Value} {h : Hp} {v : Nat} : Run 147 166 (some (.ref v) :: L) S h = Run 147 167 (some (.ref v) :: L) (.ref v :: S) h := Rg rfl
set_option maxRecDepth 100000 in
theorem e147_167 {L : Lo} {S : List Value} {h : Hp} {x0 x1 x2 : Option Value} {v : Int32} : Run 147 167 (x0 :: x1 :: x2 :: some (.int v) :: L) S h = Run 147 168 (x0 :: x1 :: x2 :: some (.int v) :: L) (.int v :: S) h := Rg rfl
set_option maxRecDepth 100000 in
theorem e147_168 {L : Lo} {S : List Value} {h : Hp} {x0 x1 x2 x3 x4 x5 x6 x7 : Option Value} {v : Int32} : Run 147 168 (x0 :: x1 :: x2 :: x3 :: x4 :: x5 :: x6 :: x7 :: some (.int v) :: L) S h = Run 147 170 (x0 :: x1 :: x2 :: x3 :: x4 :: x5 :: x6 :: x7 :: some (.int v) :: L) (.int v :: S) h := Rg rfl
set_option maxRecDepth 100000 in
theorem e147_170 {L : Lo} {h : Hp} {a2 : Int32} {a1 : Int32} {a0 : Nat} : Run 147 170 L [.int a2, .int a1, .ref a0] h = (Run 129 0 [some (.ref a0), some (.int a1), some (.int a2), none] [] h).bind fun o => aft 147 170 173 L [] o := Rc (c := 129) (As := [.ref a0, .int a1, .int a2]) (S' := []) (pc' := 173) rfl
set_option maxRecDepth 100000 in
theorem e147_173 {L : Lo} {S : List Value} {h : Hp} {x0 x1 x2 x3 : Option Value} {v : Int32} : Run 147 173 (x0 :: x1 :: x2 :: x3 :: some (.int v) :: L) S h = Run 147 175 (x0 :: x1 :: x2 :: x3 :: some (.int v) :: L) (.int v :: S) h := Rg rfl
set_option maxRecDepth 100000 in
theorem e147_175 {L : Lo} {S : List Value} {h : Hp} : Run 147 175 L S h = Run 147 177 L (.int 10 :: S) h := Rg rfl
set_option maxRecDepth 100000 in
theorem e147_177 {L : Lo} {S : List Value} {h : Hp} {x z : Int32} : Run 147 177 L (.int z :: .int x :: S) h = Run 147 178 L (.int (x + z) :: S) h := Rg rfl
set_option maxRecDepth 100000 in
theorem e147_178 {L : Lo} {S : List Value} {h : Hp} {x z : Int32} : Run 147 178 L (.int z :: .int x :: S) h = if x = z then Run 147 181 L S h else Run 147 256 L S h := RbrN (c := cnd .ne x z = true) (off := 78) rfl rfl cnd_ne
set_option maxRecDepth 100000 in
theorem e147_181 {L : Lo} {S : List Value} {h : Hp} {v : Nat} : Run 147 181 (some (.ref v) :: L) S h = Run 147 182 (some (.ref v) :: L) (.ref v :: S) h := Rg rfl
set_option maxRecDepth 100000 in
theorem e147_182 {L : Lo} {S : List Value} {h : Hp} {x0 x1 x2 : Option Value} {v : Int32} : Run 147 182 (x0 :: x1 :: x2 :: some (.int v) :: L) S h = Run 147 183 (x0 :: x1 :: x2 :: some (.int v) :: L) (.int v :: S) h := Rg rfl
set_option maxRecDepth 100000 in
theorem e147_183 {L : Lo} {h : Hp} {a1 : Int32} {a0 : Nat} : Run 147 183 L [.int a1, .ref a0] h = (Run 127 0 [some (.ref a0), some (.int a1), none] [] h).bind fun o => aft 147 183 186 L [] o := Rc (c := 127) (As := [.ref a0, .int a1]) (S' := []) (pc' := 186) rfl
set_option maxRecDepth 100000 in
theorem e147_186 {L : Lo} {S : List Value} {h : Hp} : Run 147 186 L S h = Run 147 187 L (.int (-1) :: S) h := Rg rfl
set_option maxRecDepth 100000 in
theorem e147_187 {L : Lo} {S : List Value} {h : Hp} {x z : Int32} : Run 147 187 L (.int z :: .int x :: S) h = if x = z then Run 147 190 L S h else Run 147 256 L S h := RbrN (c := cnd .ne x z = true) (off := 69) rfl rfl cnd_ne
set_option maxRecDepth 100000 in
theorem e147_190 {L : Lo} {S : List Value} {h : Hp} {v : Nat} : Run 147 190 (some (.ref v) :: L) S h = Run 147 191 (some (.ref v) :: L) (.ref v :: S) h := Rg rfl
set_option maxRecDepth 100000 in
theorem e147_191 {L : Lo} {S : List Value} {h : Hp} {x0 x1 x2 x3 x4 x5 x6 x7 : Option Value} {v : Int32} : Run 147 191 (x0 :: x1 :: x2 :: x3 :: x4 :: x5 :: x6 :: x7 :: some (.int v) :: L) S h = Run 147 193 (x0 :: x1 :: x2 :: x3 :: x4 :: x5 :: x6 :: x7 :: some (.int v) :: L) (.int v :: S) h := Rg rfl
set_option maxRecDepth 100000 in
theorem e147_193 {L : Lo} {h : Hp} {a1 : Int32} {a0 : Nat} : Run 147 193 L [.int a1, .ref a0] h = (Run 127 0 [some (.ref a0), some (.int a1), none] [] h).bind fun o => aft 147 193 196 L [] o := Rc (c := 127) (As := [.ref a0, .int a1]) (S' := []) (pc' := 196) rfl
set_option maxRecDepth 100000 in
theorem e147_196 {L : Lo} {S : List Value} {h : Hp} {x0 : Option Value} {v : Int32} : Run 147 196 (x0 :: some (.int v) :: L) S h = Run 147 197 (x0 :: some (.int v) :: L) (.int v :: S) h := Rg rfl
set_option maxRecDepth 100000 in
theorem e147_197 {L : Lo} {S : List Value} {h : Hp} {x z : Int32} : Run 147 197 L (.int z :: .int x :: S) h = if x = z then Run 147 200 L S h else Run 147 256 L S h := RbrN (c := cnd .ne x z = true) (off := 59) rfl rfl cnd_ne
set_option maxRecDepth 100000 in
theorem e147_200 {L : Lo} {S : List Value} {h : Hp} {v : Nat} : Run 147 200 (some (.ref v) :: L) S h = Run 147 201 (some (.ref v) :: L) (.ref v :: S) h := Rg rfl
set_option maxRecDepth 100000 in
theorem e147_201 {L : Lo} {S : List Value} {h : Hp} {x0 : Option Value} {v : Int32} : Run 147 201 (x0 :: some (.int v) :: L) S h = Run 147 202 (x0 :: some (.int v) :: L) (.int v :: S) h := Rg rfl
set_option maxRecDepth 100000 in
theorem e147_202 {L : Lo} {S : List Value} {h : Hp} : Run 147 202 L S h = Run 147 204 L (.int 8 :: S) h := Rg rfl
set_option maxRecDepth 100000 in
theorem e147_204 {L : Lo} {h : Hp} {a2 : Int32} {a1 : Int32} {a0 : Nat} : Run 147 204 L [.int a2, .int a1, .ref a0] h = (Run 126 0 [some (.ref a0), some (.int a1), some (.int a2), none] [] h).bind fun o => aft 147 204 207 L [] o := Rc (c := 126) (As := [.ref a0, .int a1, .int a2]) (S' := []) (pc' := 207) rfl
set_option maxRecDepth 100000 in
theorem e147_207 {L : Lo} {S : List Value} {h : Hp} {x0 x1 x2 x3 x4 : Option Value} {v : Int32} : Run 147 207 (x0 :: x1 :: x2 :: x3 :: x4 :: some (.int v) :: L) S h = Run 147 209 (x0 :: x1 :: x2 :: x3 :: x4 :: some (.int v) :: L) (.int v :: S) h := Rg rfl
set_option maxRecDepth 100000 in
theorem e147_209 {L : Lo} {S : List Value} {h : Hp} : Run 147 209 L S h = Run 147 210 L (.int 1 :: S) h := Rg rfl
set_option maxRecDepth 100000 in
theorem e147_210 {L : Lo} {S : List Value} {h : Hp} {x z : Int32} : Run 147 210 L (.int z :: .int x :: S) h = Run 147 211 L (.int (x - z) :: S) h := Rg rfl
set_option maxRecDepth 100000 in
theorem e147_211 {L : Lo} {S : List Value} {h : Hp} {x z : Int32} : Run 147 211 L (.int z :: .int x :: S) h = if x = z then Run 147 214 L S h else Run 147 256 L S h := RbrN (c := cnd .ne x z = true) (off := 45) rfl rfl cnd_ne
set_option maxRecDepth 100000 in
theorem e147_214 {L : Lo} {S : List Value} {h : Hp} {v : Nat} : Run 147 214 (some (.ref v) :: L) S h = Run 147 215 (some (.ref v) :: L) (.ref v :: S) h := Rg rfl
set_option maxRecDepth 100000 in
theorem e147_215 {L : Lo} {S : List Value} {h : Hp} {x0 : Option Value} {v : Int32} : Run 147 215 (x0 :: some (.int v) :: L) S h = Run 147 216 (x0 :: some (.int v) :: L) (.int v :: S) h := Rg rfl
set_option maxRecDepth 100000 in
theorem e147_216 {L : Lo} {S : List Value} {h : Hp} : Run 147 216 L S h = Run 147 217 L (.int 2 :: S) h := Rg rfl
set_option maxRecDepth 100000 in
theorem e147_217 {L : Lo} {h : Hp} {a2 : Int32} {a1 : Int32} {a0 : Nat} : Run 147 217 L [.int a2, .int a1, .ref a0] h = (Run 126 0 [some (.ref a0), some (.int a1), some (.int a2), none] [] h).bind fun o => aft 147 217 220 L [] o := Rc (c := 126) (As := [.ref a0, .int a1, .int a2]) (S' := []) (pc' := 220) rfl
set_option maxRecDepth 100000 in
theorem e147_220 {L : Lo} {S : List Value} {h : Hp} {x0 x1 x2 x3 : Option Value} {v : Int32} : Run 147 220 (x0 :: x1 :: x2 :: x3 :: some (.int v) :: L) S h = Run 147 222 (x0 :: x1 :: x2 :: x3 :: some (.int v) :: L) (.int v :: S) h := Rg rfl
set_option maxRecDepth 100000 in
theorem e147_222 {L : Lo} {S : List Value} {h : Hp} {x z : Int32} : Run 147 222 L (.int z :: .int x :: S) h = if x = z then Run 147 225 L S h else Run 147 256 L S h := RbrN (c := cnd .ne x z = true) (off := 34) rfl rfl cnd_ne
set_option maxRecDepth 100000 in
theorem e147_225 {L : Lo} {S : List Value} {h : Hp} {v : Nat} : Run 147 225 (some (.ref v) :: L) S h = Run 147 226 (some (.ref v) :: L) (.ref v :: S) h := Rg rfl
set_option maxRecDepth 100000 in
theorem e147_226 {L : Lo} {h : Hp} {a0 : Nat} : Run 147 226 L [.ref a0] h = (Run 143 0 [some (.ref a0), none] [] h).bind fun o => aft 147 226 229 L [] o := Rc (c := 143) (As := [.ref a0]) (S' := []) (pc' := 229) rfl
set_option maxRecDepth 100000 in
theorem e147_229 {L : Lo} {S : List Value} {h : Hp} {x : Int32} : Run 147 229 L (.int x :: S) h = if x < 0 then Run 147 256 L S h else Run 147 232 L S h := Rbr (c := cnd .lt x 0 = true) (off := 27) rfl rfl cnd_lt
set_option maxRecDepth 100000 in
theorem e147_232 {L : Lo} {S : List Value} {h : Hp} {v : Nat} : Run 147 232 (some (.ref v) :: L) S h = Run 147 233 (some (.ref v) :: L) (.ref v :: S) h := Rg rfl
set_option maxRecDepth 100000 in
theorem e147_233 {L : Lo} {S : List Value} {h : Hp} {x0 x1 x2 x3 x4 x5 x6 x7 : Option Value} {v : Int32} : Run 147 233 (x0 :: x1 :: x2 :: x3 :: x4 :: x5 :: x6 :: x7 :: some (.int v) :: L) S h = Run 147 235 (x0 :: x1 :: x2 :: x3 :: x4 :: x5 :: x6 :: x7 :: some (.int v) :: L) (.int v :: S) h := Rg rfl
set_option maxRecDepth 100000 in
theorem e147_235 {L : Lo} {h : Hp} {a1 : Int32} {a0 : Nat} : Run 147 235 L [.int a1, .ref a0] h = (Run 127 0 [some (.ref a0), some (.int a1), none] [] h).bind fun o => aft 147 235 238 L [] o := Rc (c := 127) (As := [.ref a0, .int a1]) (S' := []) (pc' := 238) rfl
set_option maxRecDepth 100000 in
theorem e147_238 {L : Lo} {S : List Value} {h : Hp} : Run 147 238 L S h = Run 147 239 L (.int (-1) :: S) h := Rg rfl
set_option maxRecDepth 100000 in
theorem e147_239 {L : Lo} {S : List Value} {h : Hp} {x z : Int32} : Run 147 239 L (.int z :: .int x :: S) h = if x = z then Run 147 242 L S h else Run 147 256 L S h := RbrN (c := cnd .ne x z = true) (off := 17) rfl rfl cnd_ne
set_option maxRecDepth 100000 in
theorem e147_242 {L : Lo} {S : List Value} {h : Hp} {v : Nat} : Run 147 242 (some (.ref v) :: L) S h = Run 147 243 (some (.ref v) :: L) (.ref v :: S) h := Rg rfl
set_option maxRecDepth 100000 in
theorem e147_243 {L : Lo} {S : List Value} {h : Hp} {x0 : Option Value} {v : Int32} : Run 147 243 (x0 :: some (.int v) :: L) S h = Run 147 244 (x0 :: some (.int v) :: L) (.int v :: S) h := Rg rfl
set_option maxRecDepth 100000 in
theorem e147_244 {L : Lo} {h : Hp} {a1 : Int32} {a0 : Nat} : Run 147 244 L [.int a1, .ref a0] h = (Run 130 0 [some (.ref a0), some (.int a1), none] [] h).bind fun o => aft 147 244 247 L [] o := Rc (c := 130) (As := [.ref a0, .int a1]) (S' := []) (pc' := 247) rfl
set_option maxRecDepth 100000 in
theorem e147_247 {L : Lo} {S : List Value} {h : Hp} {x0 x1 x2 x3 x4 x5 x6 x7 : Option Value} {v : Int32} : Run 147 247 (x0 :: x1 :: x2 :: x3 :: x4 :: x5 :: x6 :: x7 :: some (.int v) :: L) S h = Run 147 249 (x0 :: x1 :: x2 :: x3 :: x4 :: x5 :: x6 :: x7 :: some (.int v) :: L) (.int v :: S) h := Rg rfl
set_option maxRecDepth 100000 in
theorem e147_249 {L : Lo} {S : List Value} {h : Hp} {x z : Int32} : Run 147 249 L (.int z :: .int x :: S) h = if x = z then Run 147 252 L S h else Run 147 256 L S h := RbrN (c := cnd .ne x z = true) (off := 7) rfl rfl cnd_ne
set_option maxRecDepth 100000 in
theorem e147_252 {L : Lo} {S : List Value} {h : Hp} : Run 147 252 L S h = Run 147 253 L (.int 1 :: S) h := Rg rfl
set_option maxRecDepth 100000 in
theorem e147_253 {L : Lo} {S : List Value} {h : Hp} : Run 147 253 L S h = Run 147 257 L S h := Rg rfl
set_option maxRecDepth 100000 in
theorem e147_256 {L : Lo} {S : List Value} {h : Hp} : Run 147 256 L S h = Run 147 257 L (.int 0 :: S) h := Rg rfl
set_option maxRecDepth 100000 in
theorem e147_257 {L : Lo} {h : Hp} {x : Int32} (hx : narrow .boolean (.int x) = .int x) : Run 147 257 L [.int x] h = some (.inl (some (.int x)), h) := Rd (if_pos hx)
set_option maxRecDepth 100000 in
theorem e147_258 {L : Lo} {S : List Value} {h : Hp} {x0 x1 : Option Value} {v : Int32} : Run 147 258 (x0 :: x1 :: some (.int v) :: L) S h = Run 147 259 (x0 :: x1 :: some (.int v) :: L) (.int v :: S) h := Rg rfl
set_option maxRecDepth 100000 in
theorem e147_259 {L : Lo} {S : List Value} {h : Hp} : Run 147 259 L S h = Run 147 260 L (.int 1 :: S) h := Rg rfl
set_option maxRecDepth 100000 in
theorem e147_260 {L : Lo} {S : List Value} {h : Hp} {x z : Int32} : Run 147 260 L (.int z :: .int x :: S) h = Run 147 261 L (.int (x >>> (z &&& 31)) :: S) h := Rg rfl
set_option maxRecDepth 100000 in
theorem e147_261 {L : Lo} {S : List Value} {h : Hp} : Run 147 261 L S h = Run 147 262 L (.int 2 :: S) h := Rg rfl
set_option maxRecDepth 100000 in
theorem e147_262 {L : Lo} {h : Hp} {a1 : Int32} {a0 : Int32} : Run 147 262 L [.int a1, .int a0] h = (Run 120 0 [some (.int a0), some (.int a1)] [] h).bind fun o => aft 147 262 265 L [] o := Rc (c := 120) (As := [.int a0, .int a1]) (S' := []) (pc' := 265) rfl
set_option maxRecDepth 100000 in
theorem e147_265 {L : Lo} {S : List Value} {h : Hp} {x : Int32} : Run 147 265 L (.int x :: S) h = if x = 0 then Run 147 268 L S h else Run 147 272 L S h := RbrN (c := cnd .ne x 0 = true) (off := 7) rfl rfl cnd_ne
set_option maxRecDepth 100000 in
theorem e147_268 {L : Lo} {S : List Value} {h : Hp} : Run 147 268 L S h = Run 147 269 L (.int 1 :: S) h := Rg rfl
set_option maxRecDepth 100000 in
theorem e147_269 {L : Lo} {S : List Value} {h : Hp} : Run 147 269 L S h = Run 147 273 L S h := Rg rfl
set_option maxRecDepth 100000 in
theorem e147_272 {L : Lo} {S : List Value} {h : Hp} : Run 147 272 L S h = Run 147 273 L (.int 0 :: S) h := Rg rfl
set_option maxRecDepth 100000 in
theorem e147_273 {L : Lo} {S : List Value} {h : Hp} {x0 x1 x2 x3 x4 x5 x6 : Option Value} {y : Option Value} {v : Int32} : Run 147 273 (x0 :: x1 :: x2 :: x3 :: x4 :: x5 :: x6 :: y :: L) (.int v :: S) h = Run 147 275 (x0 :: x1 :: x2 :: x3 :: x4 :: x5 :: ck x6 :: some (.int v) :: L) S h := Rg rfl
set_option maxRecDepth 100000 in
theorem e147_275 {L : Lo} {S : List Value} {h : Hp} {v : Nat} : Run 147 275 (some (.ref v) :: L) S h = Run 147 276 (some (.ref v) :: L) (.ref v :: S) h := Rg rfl
set_option maxRecDepth 100000 in
theorem e147_276 {L : Lo} {S : List Value} {h : Hp} {x0 : Option Value} {v : Int32} : Run 147 276 (x0 :: some (.int v) :: L) S h = Run 147 277 (x0 :: some (.int v) :: L) (.int v :: S) h := Rg rfl
set_option maxRecDepth 100000 in
theorem e147_277 {L : Lo} {S : List Value} {h : Hp} {x0 x1 x2 x3 x4 x5 x6 : Option Value} {v : Int32} : Run 147 277 (x0 :: x1 :: x2 :: x3 :: x4 :: x5 :: x6 :: some (.int v) :: L) S h = Run 147 279 (x0 :: x1 :: x2 :: x3 :: x4 :: x5 :: x6 :: some (.int v) :: L) (.int v :: S) h := Rg rfl
set_option maxRecDepth 100000 in
theorem e147_279 {L : Lo} {h : Hp} {a2 : Int32} {a1 : Int32} {a0 : Nat} : Run 147 279 L [.int a2, .int a1, .ref a0] h = (Run 131 0 [some (.ref a0), some (.int a1), some (.int a2), none] [] h).bind fun o => aft 147 279 282 L [] o := Rc (c := 131) (As := [.ref a0, .int a1, .int a2]) (S' := []) (pc' := 282) rfl
set_option maxRecDepth 100000 in
theorem e147_282 {L : Lo} {S : List Value} {h : Hp} {x0 x1 x2 x3 x4 x5 x6 x7 : Option Value} {y : Option Value} {v : Int32} : Run 147 282 (x0 :: x1 :: x2 :: x3 :: x4 :: x5 :: x6 :: x7 :: y :: L) (.int v :: S) h = Run 147 284 (x0 :: x1 :: x2 :: x3 :: x4 :: x5 :: x6 :: ck x7 :: some (.int v) :: L) S h := Rg rfl
set_option maxRecDepth 100000 in
theorem e147_284 {L : Lo} {S : List Value} {h : Hp} {x0 x1 x2 x3 x4 x5 x6 x7 : Option Value} {v : Int32} : Run 147 284 (x0 :: x1 :: x2 :: x3 :: x4 :: x5 :: x6 :: x7 :: some (.int v) :: L) S h = Run 147 286 (x0 :: x1 :: x2 :: x3 :: x4 :: x5 :: x6 :: x7 :: some (.int v) :: L) (.int v :: S) h := Rg rfl
set_option maxRecDepth 100000 in
theorem e147_286 {L : Lo} {S : List Value} {h : Hp} : Run 147 286 L S h = Run 147 289 L (.int (-902) :: S) h := Rg rfl
set_option maxRecDepth 100000 in
theorem e147_289 {L : Lo} {S : List Value} {h : Hp} {x z : Int32} : Run 147 289 L (.int z :: .int x :: S) h = if x = z then Run 147 292 L S h else Run 147 321 L S h := RbrN (c := cnd .ne x z = true) (off := 32) rfl rfl cnd_ne
set_option maxRecDepth 100000 in
theorem e147_292 {L : Lo} {S : List Value} {h : Hp} {v : Nat} : Run 147 292 (some (.ref v) :: L) S h = Run 147 293 (some (.ref v) :: L) (.ref v :: S) h := Rg rfl
set_option maxRecDepth 100000 in
theorem e147_293 {L : Lo} {S : List Value} {h : Hp} {x0 : Option Value} {v : Int32} : Run 147 293 (x0 :: some (.int v) :: L) S h = Run 147 294 (x0 :: some (.int v) :: L) (.int v :: S) h := Rg rfl
set_option maxRecDepth 100000 in
theorem e147_294 {L : Lo} {S : List Value} {h : Hp} : Run 147 294 L S h = Run 147 295 L (.int 2 :: S) h := Rg rfl
set_option maxRecDepth 100000 in
theorem e147_295 {L : Lo} {h : Hp} {a2 : Int32} {a1 : Int32} {a0 : Nat} : Run 147 295 L [.int a2, .int a1, .ref a0] h = (Run 126 0 [some (.ref a0), some (.int a1), some (.int a2), none] [] h).bind fun o => aft 147 295 298 L [] o := Rc (c := 126) (As := [.ref a0, .int a1, .int a2]) (S' := []) (pc' := 298) rfl
set_option maxRecDepth 100000 in
theorem e147_298 {L : Lo} {S : List Value} {h : Hp} {x0 x1 x2 x3 : Option Value} {v : Int32} : Run 147 298 (x0 :: x1 :: x2 :: x3 :: some (.int v) :: L) S h = Run 147 300 (x0 :: x1 :: x2 :: x3 :: some (.int v) :: L) (.int v :: S) h := Rg rfl
set_option maxRecDepth 100000 in
theorem e147_300 {L : Lo} {S : List Value} {h : Hp} {x z : Int32} : Run 147 300 L (.int z :: .int x :: S) h = if x = z then Run 147 303 L S h else Run 147 319 L S h := RbrN (c := cnd .ne x z = true) (off := 19) rfl rfl cnd_ne
set_option maxRecDepth 100000 in
theorem e147_303 {L : Lo} {S : List Value} {h : Hp} {v : Nat} : Run 147 303 (some (.ref v) :: L) S h = Run 147 304 (some (.ref v) :: L) (.ref v :: S) h := Rg rfl
set_option maxRecDepth 100000 in
theorem e147_304 {L : Lo} {S : List Value} {h : Hp} {x0 : Option Value} {v : Int32} : Run 147 304 (x0 :: some (.int v) :: L) S h = Run 147 305 (x0 :: some (.int v) :: L) (.int v :: S) h := Rg rfl
set_option maxRecDepth 100000 in
theorem e147_305 {L : Lo} {S : List Value} {h : Hp} : Run 147 305 L S h = Run 147 307 L (.int 8 :: S) h := Rg rfl
set_option maxRecDepth 100000 in
theorem e147_307 {L : Lo} {h : Hp} {a2 : Int32} {a1 : Int32} {a0 : Nat} : Run 147 307 L [.int a2, .int a1, .ref a0] h = (Run 126 0 [some (.ref a0), some (.int a1), some (.int a2), none] [] h).bind fun o => aft 147 307 310 L [] o := Rc (c := 126) (As := [.ref a0, .int a1, .int a2]) (S' := []) (pc' := 310) rfl
set_option maxRecDepth 100000 in
theorem e147_310 {L : Lo} {S : List Value} {h : Hp} {x0 x1 x2 x3 x4 : Option Value} {v : Int32} : Run 147 310 (x0 :: x1 :: x2 :: x3 :: x4 :: some (.int v) :: L) S h = Run 147 312 (x0 :: x1 :: x2 :: x3 :: x4 :: some (.int v) :: L) (.int v :: S) h := Rg rfl
set_option maxRecDepth 100000 in
theorem e147_312 {L : Lo} {S : List Value} {h : Hp} {x z : Int32} : Run 147 312 L (.int z :: .int x :: S) h = if x = z then Run 147 315 L S h else Run 147 319 L S h := RbrN (c := cnd .ne x z = true) (off := 7) rfl rfl cnd_ne
set_option maxRecDepth 100000 in
theorem e147_315 {L : Lo} {S : List Value} {h : Hp} : Run 147 315 L S h = Run 147 316 L (.int 1 :: S) h := Rg rfl
set_option maxRecDepth 100000 in
theorem e147_316 {L : Lo} {S : List Value} {h : Hp} : Run 147 316 L S h = Run 147 320 L S h := Rg rfl
set_option maxRecDepth 100000 in
theorem e147_319 {L : Lo} {S : List Value} {h : Hp} : Run 147 319 L S h = Run 147 320 L (.int 0 :: S) h := Rg rfl
set_option maxRecDepth 100000 in
theorem e147_320 {L : Lo} {h : Hp} {x : Int32} (hx : narrow .boolean (.int x) = .int x) : Run 147 320 L [.int x] h = some (.inl (some (.int x)), h) := Rd (if_pos hx)
set_option maxRecDepth 100000 in
theorem e147_321 {L : Lo} {S : List Value} {h : Hp} {x0 x1 x2 x3 x4 x5 : Option Value} {v : Int32} : Run 147 321 (x0 :: x1 :: x2 :: x3 :: x4 :: x5 :: some (.int v) :: L) S h = Run 147 323 (x0 :: x1 :: x2 :: x3 :: x4 :: x5 :: some (.int v) :: L) (.int v :: S) h := Rg rfl
set_option maxRecDepth 100000 in
theorem e147_323 {L : Lo} {S : List Value} {h : Hp} {x : Int32} : Run 147 323 L (.int x :: S) h = if x = 0 then Run 147 371 L S h else Run 147 326 L S h := Rbr (c := cnd .eq x 0 = true) (off := 48) rfl rfl cnd_eq
set_option maxRecDepth 100000 in
theorem e147_326 {L : Lo} {S : List Value} {h : Hp} {x0 x1 x2 x3 x4 x5 x6 x7 : Option Value} {v : Int32} : Run 147 326 (x0 :: x1 :: x2 :: x3 :: x4 :: x5 :: x6 :: x7 :: some (.int v) :: L) S h = Run 147 328 (x0 :: x1 :: x2 :: x3 :: x4 :: x5 :: x6 :: x7 :: some (.int v) :: L) (.int v :: S) h := Rg rfl
set_option maxRecDepth 100000 in
theorem e147_328 {L : Lo} {S : List Value} {h : Hp} {x0 x1 x2 x3 : Option Value} {v : Int32} : Run 147 328 (x0 :: x1 :: x2 :: x3 :: some (.int v) :: L) S h = Run 147 330 (x0 :: x1 :: x2 :: x3 :: some (.int v) :: L) (.int v :: S) h := Rg rfl
set_option maxRecDepth 100000 in
theorem e147_330 {L : Lo} {S : List Value} {h : Hp} {x0 x1 x2 x3 x4 x5 x6 : Option Value} {v : Int32} : Run 147 330 (x0 :: x1 :: x2 :: x3 :: x4 :: x5 :: x6 :: some (.int v) :: L) S h = Run 147 332 (x0 :: x1 :: x2 :: x3 :: x4 :: x5 :: x6 :: some (.int v) :: L) (.int v :: S) h := Rg rfl
set_option maxRecDepth 100000 in
theorem e147_332 {L : Lo} {S : List Value} {h : Hp} {x : Int32} : Run 147 332 L (.int x :: S) h = if x = 0 then Run 147 339 L S h else Run 147 335 L S h := Rbr (c := cnd .eq x 0 = true) (off := 7) rfl rfl cnd_eq
set_option maxRecDepth 100000 in
theorem e147_335 {L : Lo} {S : List Value} {h : Hp} : Run 147 335 L S h = Run 147 336 L (.int 1 :: S) h := Rg rfl
set_option maxRecDepth 100000 in
theorem e147_336 {L : Lo} {S : List Value} {h : Hp} : Run 147 336 L S h = Run 147 340 L S h := Rg rfl
set_option maxRecDepth 100000 in
theorem e147_339 {L : Lo} {S : List Value} {h : Hp} : Run 147 339 L S h = Run 147 340 L (.int 5 :: S) h := Rg rfl
set_option maxRecDepth 100000 in
theorem e147_340 {L : Lo} {S : List Value} {h : Hp} {x z : Int32} : Run 147 340 L (.int z :: .int x :: S) h = Run 147 341 L (.int (x + z) :: S) h := Rg rfl
set_option maxRecDepth 100000 in
theorem e147_341 {L : Lo} {S : List Value} {h : Hp} : Run 147 341 L S h = Run 147 343 L (.int 6 :: S) h := Rg rfl
set_option maxRecDepth 100000 in
theorem e147_343 {L : Lo} {S : List Value} {h : Hp} {x z : Int32} (hz : ¬ z = 0) : Run 147 343 L (.int z :: .int x :: S) h = Run 147 344 L (.int (x - x / z * z) :: S) h := Rg (if_neg hz)
set_option maxRecDepth 100000 in
theorem e147_344 {L : Lo} {S : List Value} {h : Hp} {x z : Int32} : Run 147 344 L (.int z :: .int x :: S) h = if x = z then Run 147 347 L S h else Run 147 371 L S h := RbrN (c := cnd .ne x z = true) (off := 27) rfl rfl cnd_ne
set_option maxRecDepth 100000 in
theorem e147_347 {L : Lo} {S : List Value} {h : Hp} {v : Nat} : Run 147 347 (some (.ref v) :: L) S h = Run 147 348 (some (.ref v) :: L) (.ref v :: S) h := Rg rfl
set_option maxRecDepth 100000 in
theorem e147_348 {L : Lo} {S : List Value} {h : Hp} {x0 : Option Value} {v : Int32} : Run 147 348 (x0 :: some (.int v) :: L) S h = Run 147 349 (x0 :: some (.int v) :: L) (.int v :: S) h := Rg rfl
set_option maxRecDepth 100000 in
theorem e147_349 {L : Lo} {S : List Value} {h : Hp} : Run 147 349 L S h = Run 147 351 L (.int 8 :: S) h := Rg rfl
set_option maxRecDepth 100000 in
theorem e147_351 {L : Lo} {h : Hp} {a2 : Int32} {a1 : Int32} {a0 : Nat} : Run 147 351 L [.int a2, .int a1, .ref a0] h = (Run 126 0 [some (.ref a0), some (.int a1), some (.int a2), none] [] h).bind fun o => aft 147 351 354 L [] o := Rc (c := 126) (As := [.ref a0, .int a1, .int a2]) (S' := []) (pc' := 354) rfl
set_option maxRecDepth 100000 in
theorem e147_354 {L : Lo} {S : List Value} {h : Hp} {x0 x1 x2 x3 x4 : Option Value} {v : Int32} : Run 147 354 (x0 :: x1 :: x2 :: x3 :: x4 :: some (.int v) :: L) S h = Run 147 356 (x0 :: x1 :: x2 :: x3 :: x4 :: some (.int v) :: L) (.int v :: S) h := Rg rfl
set_option maxRecDepth 100000 in
theorem e147_356 {L : Lo} {S : List Value} {h : Hp} : Run 147 356 L S h = Run 147 357 L (.int 1 :: S) h := Rg rfl
set_option maxRecDepth 100000 in
theorem e147_357 {L : Lo} {S : List Value} {h : Hp} {x z : Int32} : Run 147 357 L (.int z :: .int x :: S) h = Run 147 358 L (.int (x - z) :: S) h := Rg rfl
set_option maxRecDepth 100000 in
theorem e147_358 {L : Lo} {S : List Value} {h : Hp} {x z : Int32} : Run 147 358 L (.int z :: .int x :: S) h = if x = z then Run 147 361 L S h else Run 147 371 L S h := RbrN (c := cnd .ne x z = true) (off := 13) rfl rfl cnd_ne
set_option maxRecDepth 100000 in
theorem e147_361 {L : Lo} {S : List Value} {h : Hp} {v : Nat} : Run 147 361 (some (.ref v) :: L) S h = Run 147 362 (some (.ref v) :: L) (.ref v :: S) h := Rg rfl
set_option maxRecDepth 100000 in
theorem e147_362 {L : Lo} {S : List Value} {h : Hp} {x0 : Option Value} {v : Int32} : Run 147 362 (x0 :: some (.int v) :: L) S h = Run 147 363 (x0 :: some (.int v) :: L) (.int v :: S) h := Rg rfl
set_option maxRecDepth 100000 in
theorem e147_363 {L : Lo} {S : List Value} {h : Hp} : Run 147 363 L S h = Run 147 364 L (.int 1 :: S) h := Rg rfl
set_option maxRecDepth 100000 in
theorem e147_364 {L : Lo} {h : Hp} {a2 : Int32} {a1 : Int32} {a0 : Nat} : Run 147 364 L [.int a2, .int a1, .ref a0] h = (Run 126 0 [some (.ref a0), some (.int a1), some (.int a2), none] [] h).bind fun o => aft 147 364 367 L [] o := Rc (c := 126) (As := [.ref a0, .int a1, .int a2]) (S' := []) (pc' := 367) rfl
set_option maxRecDepth 100000 in
theorem e147_367 {L : Lo} {S : List Value} {h : Hp} {x0 x1 x2 : Option Value} {v : Int32} : Run 147 367 (x0 :: x1 :: x2 :: some (.int v) :: L) S h = Run 147 368 (x0 :: x1 :: x2 :: some (.int v) :: L) (.int v :: S) h := Rg rfl
set_option maxRecDepth 100000 in
theorem e147_368 {L : Lo} {S : List Value} {h : Hp} {x z : Int32} : Run 147 368 L (.int z :: .int x :: S) h = if x = z then Run 147 373 L S h else Run 147 371 L S h := Rbr (c := cnd .eq x z = true) (off := 5) rfl rfl cnd_eq
set_option maxRecDepth 100000 in
theorem e147_371 {L : Lo} {S : List Value} {h : Hp} : Run 147 371 L S h = Run 147 372 L (.int 0 :: S) h := Rg rfl
set_option maxRecDepth 100000 in
theorem e147_372 {L : Lo} {h : Hp} {x : Int32} (hx : narrow .boolean (.int x) = .int x) : Run 147 372 L [.int x] h = some (.inl (some (.int x)), h) := Rd (if_pos hx)
set_option maxRecDepth 100000 in
theorem e147_373 {L : Lo} {S : List Value} {h : Hp} {v : Nat} : Run 147 373 (some (.ref v) :: L) S h = Run 147 374 (some (.ref v) :: L) (.ref v :: S) h := Rg rfl
set_option maxRecDepth 100000 in
theorem e147_374 {L : Lo} {S : List Value} {h : Hp} {x0 : Option Value} {v : Int32} : Run 147 374 (x0 :: some (.int v) :: L) S h = Run 147 375 (x0 :: some (.int v) :: L) (.int v :: S) h := Rg rfl
set_option maxRecDepth 100000 in
theorem e147_375 {L : Lo} {S : List Value} {h : Hp} : Run 147 375 L S h = Run 147 377 L (.int 13 :: S) h := Rg rfl
set_option maxRecDepth 100000 in
theorem e147_377 {L : Lo} {h : Hp} {a2 : Int32} {a1 : Int32} {a0 : Nat} : Run 147 377 L [.int a2, .int a1, .ref a0] h = (Run 126 0 [some (.ref a0), some (.int a1), some (.int a2), none] [] h).bind fun o => aft 147 377 380 L [] o := Rc (c := 126) (As := [.ref a0, .int a1, .int a2]) (S' := []) (pc' := 380) rfl
set_option maxRecDepth 100000 in
theorem e147_380 {L : Lo} {S : List Value} {h : Hp} : Run 147 380 L S h = Run 147 381 L (.int 3 :: S) h := Rg rfl
set_option maxRecDepth 100000 in
theorem e147_381 {L : Lo} {S : List Value} {h : Hp} {x z : Int32} : Run 147 381 L (.int z :: .int x :: S) h = if x = z then Run 147 390 L S h else Run 147 384 L S h := Rbr (c := cnd .eq x z = true) (off := 9) rfl rfl cnd_eq
set_option maxRecDepth 100000 in
theorem e147_384 {L : Lo} {S : List Value} {h : Hp} {x0 x1 x2 x3 x4 : Option Value} {v : Int32} : Run 147 384 (x0 :: x1 :: x2 :: x3 :: x4 :: some (.int v) :: L) S h = Run 147 386 (x0 :: x1 :: x2 :: x3 :: x4 :: some (.int v) :: L) (.int v :: S) h := Rg rfl
set_option maxRecDepth 100000 in
theorem e147_386 {L : Lo} {S : List Value} {h : Hp} : Run 147 386 L S h = Run 147 387 L (.int 2 :: S) h := Rg rfl
set_option maxRecDepth 100000 in
theorem e147_387 {L : Lo} {S : List Value} {h : Hp} {x z : Int32} : Run 147 387 L (.int z :: .int x :: S) h = if z ≤ x then Run 147 412 L S h else Run 147 390 L S h := Rbr (c := cnd .ge x z = true) (off := 25) rfl rfl cnd_ge
set_option maxRecDepth 100000 in
theorem e147_390 {L : Lo} {S : List Value} {h : Hp} {x0 x1 x2 x3 x4 : Option Value} {v : Int32} : Run 147 390 (x0 :: x1 :: x2 :: x3 :: x4 :: some (.int v) :: L) S h = Run 147 392 (x0 :: x1 :: x2 :: x3 :: x4 :: some (.int v) :: L) (.int v :: S) h := Rg rfl
set_option maxRecDepth 100000 in
theorem e147_392 {L : Lo} {S : List Value} {h : Hp} : Run 147 392 L S h = Run 147 393 L (.int 2 :: S) h := Rg rfl
set_option maxRecDepth 100000 in
theorem e147_393 {L : Lo} {S : List Value} {h : Hp} {x z : Int32} : Run 147 393 L (.int z :: .int x :: S) h = if x < z then Run 147 406 L S h else Run 147 396 L S h := Rbr (c := cnd .lt x z = true) (off := 13) rfl rfl cnd_lt
set_option maxRecDepth 100000 in
theorem e147_396 {L : Lo} {S : List Value} {h : Hp} {v : Nat} : Run 147 396 (some (.ref v) :: L) S h = Run 147 397 (some (.ref v) :: L) (.ref v :: S) h := Rg rfl
set_option maxRecDepth 100000 in
theorem e147_397 {L : Lo} {S : List Value} {h : Hp} {x0 : Option Value} {v : Int32} : Run 147 397 (x0 :: some (.int v) :: L) S h = Run 147 398 (x0 :: some (.int v) :: L) (.int v :: S) h := Rg rfl
set_option maxRecDepth 100000 in
theorem e147_398 {L : Lo} {S : List Value} {h : Hp} {x0 x1 x2 x3 x4 x5 x6 : Option Value} {v : Int32} : Run 147 398 (x0 :: x1 :: x2 :: x3 :: x4 :: x5 :: x6 :: some (.int v) :: L) S h = Run 147 400 (x0 :: x1 :: x2 :: x3 :: x4 :: x5 :: x6 :: some (.int v) :: L) (.int v :: S) h := Rg rfl
set_option maxRecDepth 100000 in
theorem e147_400 {L : Lo} {h : Hp} {a2 : Int32} {a1 : Int32} {a0 : Nat} : Run 147 400 L [.int a2, .int a1, .ref a0] h = (Run 131 0 [some (.ref a0), some (.int a1), some (.int a2), none] [] h).bind fun o => aft 147 400 403 L [] o := Rc (c := 131) (As := [.ref a0, .int a1, .int a2]) (S' := []) (pc' := 403) rfl
set_option maxRecDepth 100000 in
theorem e147_403 {L : Lo} {S : List Value} {h : Hp} {x : Int32} : Run 147 403 L (.int x :: S) h = if x < 0 then Run 147 410 L S h else Run 147 406 L S h := Rbr (c := cnd .lt x 0 = true) (off := 7) rfl rfl cnd_lt
set_option maxRecDepth 100000 in
theorem e147_406 {L : Lo} {S : List Value} {h : Hp} : Run 147 406 L S h = Run 147 407 L (.int 1 :: S) h := Rg rfl
set_option maxRecDepth 100000 in
theorem e147_407 {L : Lo} {S : List Value} {h : Hp} : Run 147 407 L S h = Run 147 411 L S h := Rg rfl
set_option maxRecDepth 100000 in
theorem e147_410 {L : Lo} {S : List Value} {h : Hp} : Run 147 410 L S h = Run 147 411 L (.int 0 :: S) h := Rg rfl
set_option maxRecDepth 100000 in
theorem e147_411 {L : Lo} {h : Hp} {x : Int32} (hx : narrow .boolean (.int x) = .int x) : Run 147 411 L [.int x] h = some (.inl (some (.int x)), h) := Rd (if_pos hx)
set_option maxRecDepth 100000 in
theorem e147_412 {L : Lo} {S : List Value} {h : Hp} {v : Nat} : Run 147 412 (some (.ref v) :: L) S h = Run 147 413 (some (.ref v) :: L) (.ref v :: S) h := Rg rfl
set_option maxRecDepth 100000 in
theorem e147_413 {L : Lo} {S : List Value} {h : Hp} {x0 : Option Value} {v : Int32} : Run 147 413 (x0 :: some (.int v) :: L) S h = Run 147 414 (x0 :: some (.int v) :: L) (.int v :: S) h := Rg rfl
set_option maxRecDepth 100000 in
theorem e147_414 {L : Lo} {S : List Value} {h : Hp} {x0 x1 x2 x3 x4 x5 x6 : Option Value} {v : Int32} : Run 147 414 (x0 :: x1 :: x2 :: x3 :: x4 :: x5 :: x6 :: some (.int v) :: L) S h = Run 147 416 (x0 :: x1 :: x2 :: x3 :: x4 :: x5 :: x6 :: some (.int v) :: L) (.int v :: S) h := Rg rfl
set_option maxRecDepth 100000 in
theorem e147_416 {L : Lo} {S : List Value} {h : Hp} {x : Int32} : Run 147 416 L (.int x :: S) h = if x = 0 then Run 147 419 L S h else Run 147 423 L S h := RbrN (c := cnd .ne x 0 = true) (off := 7) rfl rfl cnd_ne
set_option maxRecDepth 100000 in
theorem e147_419 {L : Lo} {S : List Value} {h : Hp} : Run 147 419 L S h = Run 147 420 L (.int 1 :: S) h := Rg rfl
set_option maxRecDepth 100000 in
theorem e147_420 {L : Lo} {S : List Value} {h : Hp} : Run 147 420 L S h = Run 147 424 L S h := Rg rfl
set_option maxRecDepth 100000 in
theorem e147_423 {L : Lo} {S : List Value} {h : Hp} : Run 147 423 L S h = Run 147 424 L (.int 0 :: S) h := Rg rfl
set_option maxRecDepth 100000 in
theorem e147_424 {L : Lo} {h : Hp} {a2 : Int32} {a1 : Int32} {a0 : Nat} : Run 147 424 L [.int a2, .int a1, .ref a0] h = (Run 131 0 [some (.ref a0), some (.int a1), some (.int a2), none] [] h).bind fun o => aft 147 424 427 L [] o := Rc (c := 131) (As := [.ref a0, .int a1, .int a2]) (S' := []) (pc' := 427) rfl
set_option maxRecDepth 100000 in
theorem e147_427 {L : Lo} {S : List Value} {h : Hp} {x0 x1 x2 x3 x4 x5 x6 x7 x8 : Option Value} {y : Option Value} {v : Int32} : Run 147 427 (x0 :: x1 :: x2 :: x3 :: x4 :: x5 :: x6 :: x7 :: x8 :: y :: L) (.int v :: S) h = Run 147 429 (x0 :: x1 :: x2 :: x3 :: x4 :: x5 :: x6 :: x7 :: ck x8 :: some (.int v) :: L) S h := Rg rfl
set_option maxRecDepth 100000 in
theorem e147_429 {L : Lo} {S : List Value} {h : Hp} {x0 x1 x2 x3 x4 x5 x6 x7 x8 : Option Value} {v : Int32} : Run 147 429 (x0 :: x1 :: x2 :: x3 :: x4 :: x5 :: x6 :: x7 :: x8 :: some (.int v) :: L) S h = Run 147 431 (x0 :: x1 :: x2 :: x3 :: x4 :: x5 :: x6 :: x7 :: x8 :: some (.int v) :: L) (.int v :: S) h := Rg rfl
set_option maxRecDepth 100000 in
theorem e147_431 {L : Lo} {S : List Value} {h : Hp} : Run 147 431 L S h = Run 147 434 L (.int (-902) :: S) h := Rg rfl
set_option maxRecDepth 100000 in
theorem e147_434 {L : Lo} {S : List Value} {h : Hp} {x z : Int32} : Run 147 434 L (.int z :: .int x :: S) h = if x = z then Run 147 458 L S h else Run 147 437 L S h := Rbr (c := cnd .eq x z = true) (off := 24) rfl rfl cnd_eq
set_option maxRecDepth 100000 in
theorem e147_437 {L : Lo} {S : List Value} {h : Hp} {x0 x1 x2 x3 x4 x5 x6 x7 x8 : Option Value} {v : Int32} : Run 147 437 (x0 :: x1 :: x2 :: x3 :: x4 :: x5 :: x6 :: x7 :: x8 :: some (.int v) :: L) S h = Run 147 439 (x0 :: x1 :: x2 :: x3 :: x4 :: x5 :: x6 :: x7 :: x8 :: some (.int v) :: L) (.int v :: S) h := Rg rfl
set_option maxRecDepth 100000 in
theorem e147_439 {L : Lo} {S : List Value} {h : Hp} {x0 x1 x2 x3 : Option Value} {v : Int32} : Run 147 439 (x0 :: x1 :: x2 :: x3 :: some (.int v) :: L) S h = Run 147 441 (x0 :: x1 :: x2 :: x3 :: some (.int v) :: L) (.int v :: S) h := Rg rfl
set_option maxRecDepth 100000 in
theorem e147_441 {L : Lo} {S : List Value} {h : Hp} {x z : Int32} : Run 147 441 L (.int z :: .int x :: S) h = if x = z then Run 147 444 L S h else Run 147 462 L S h := RbrN (c := cnd .ne x z = true) (off := 21) rfl rfl cnd_ne
set_option maxRecDepth 100000 in
theorem e147_444 {L : Lo} {S : List Value} {h : Hp} {v : Nat} : Run 147 444 (some (.ref v) :: L) S h = Run 147 445 (some (.ref v) :: L) (.ref v :: S) h := Rg rfl
set_option maxRecDepth 100000 in
theorem e147_445 {L : Lo} {S : List Value} {h : Hp} {x0 : Option Value} {v : Int32} : Run 147 445 (x0 :: some (.int v) :: L) S h = Run 147 446 (x0 :: some (.int v) :: L) (.int v :: S) h := Rg rfl
set_option maxRecDepth 100000 in
theorem e147_446 {L : Lo} {S : List Value} {h : Hp} : Run 147 446 L S h = Run 147 448 L (.int 8 :: S) h := Rg rfl
set_option maxRecDepth 100000 in
theorem e147_448 {L : Lo} {h : Hp} {a2 : Int32} {a1 : Int32} {a0 : Nat} : Run 147 448 L [.int a2, .int a1, .ref a0] h = (Run 126 0 [some (.ref a0), some (.int a1), some (.int a2), none] [] h).bind fun o => aft 147 448 451 L [] o := Rc (c := 126) (As := [.ref a0, .int a1, .int a2]) (S' := []) (pc' := 451) rfl
set_option maxRecDepth 100000 in
theorem e147_451 {L : Lo} {S : List Value} {h : Hp} {x0 x1 x2 x3 x4 : Option Value} {v : Int32} : Run 147 451 (x0 :: x1 :: x2 :: x3 :: x4 :: some (.int v) :: L) S h = Run 147 453 (x0 :: x1 :: x2 :: x3 :: x4 :: some (.int v) :: L) (.int v :: S) h := Rg rfl
set_option maxRecDepth 100000 in
theorem e147_453 {L : Lo} {S : List Value} {h : Hp} : Run 147 453 L S h = Run 147 454 L (.int 2 :: S) h := Rg rfl
set_option maxRecDepth 100000 in
theorem e147_454 {L : Lo} {S : List Value} {h : Hp} {x z : Int32} : Run 147 454 L (.int z :: .int x :: S) h = Run 147 455 L (.int (x - z) :: S) h := Rg rfl
set_option maxRecDepth 100000 in
theorem e147_455 {L : Lo} {S : List Value} {h : Hp} {x z : Int32} : Run 147 455 L (.int z :: .int x :: S) h = if x = z then Run 147 458 L S h else Run 147 462 L S h := RbrN (c := cnd .ne x z = true) (off := 7) rfl rfl cnd_ne
set_option maxRecDepth 100000 in
theorem e147_458 {L : Lo} {S : List Value} {h : Hp} : Run 147 458 L S h = Run 147 459 L (.int 1 :: S) h := Rg rfl
set_option maxRecDepth 100000 in
theorem e147_459 {L : Lo} {S : List Value} {h : Hp} : Run 147 459 L S h = Run 147 463 L S h := Rg rfl
set_option maxRecDepth 100000 in
theorem e147_462 {L : Lo} {S : List Value} {h : Hp} : Run 147 462 L S h = Run 147 463 L (.int 0 :: S) h := Rg rfl
set_option maxRecDepth 100000 in
theorem e147_463 {L : Lo} {h : Hp} {x : Int32} (hx : narrow .boolean (.int x) = .int x) : Run 147 463 L [.int x] h = some (.inl (some (.int x)), h) := Rd (if_pos hx)
set_option maxRecDepth 100000 in
theorem e148_0 {L : Lo} {S : List Value} {h : Hp} {x0 x1 x2 : Option Value} {v : Int32} : Run 148 0 (x0 :: x1 :: x2 :: some (.int v) :: L) S h = Run 148 1 (x0 :: x1 :: x2 :: some (.int v) :: L) (.int v :: S) h := Rg rfl
set_option maxRecDepth 100000 in
theorem e148_1 {L : Lo} {S : List Value} {h : Hp} : Run 148 1 L S h = Run 148 2 L (.int 2 :: S) h := Rg rfl
set_option maxRecDepth 100000 in
theorem e148_2 {L : Lo} {h : Hp} {a1 : Int32} {a0 : Int32} : Run 148 2 L [.int a1, .int a0] h = (Run 120 0 [some (.int a0), some (.int a1)] [] h).bind fun o => aft 148 2 5 L [] o := Rc (c := 120) (As := [.int a0, .int a1]) (S' := []) (pc' := 5) rfl
set_option maxRecDepth 100000 in
theorem e148_5 {L : Lo} {S : List Value} {h : Hp} {x : Int32} : Run 148 5 L (.int x :: S) h = if x = 0 then Run 148 8 L S h else Run 148 12 L S h := RbrN (c := cnd .ne x 0 = true) (off := 7) rfl rfl cnd_ne
set_option maxRecDepth 100000 in
theorem e148_8 {L : Lo} {S : List Value} {h : Hp} : Run 148 8 L S h = Run 148 9 L (.int 1 :: S) h := Rg rfl
set_option maxRecDepth 100000 in
theorem e148_9 {L : Lo} {S : List Value} {h : Hp} : Run 148 9 L S h = Run 148 13 L S h := Rg rfl
set_option maxRecDepth 100000 in
theorem e148_12 {L : Lo} {S : List Value} {h : Hp} : Run 148 12 L S h = Run 148 13 L (.int 0 :: S) h := Rg rfl
set_option maxRecDepth 100000 in
theorem e148_13 {L : Lo} {S : List Value} {h : Hp} {x0 x1 x2 x3 : Option Value} {y : Option Value} {v : Int32} : Run 148 13 (x0 :: x1 :: x2 :: x3 :: y :: L) (.int v :: S) h = Run 148 15 (x0 :: x1 :: x2 :: ck x3 :: some (.int v) :: L) S h := Rg rfl
set_option maxRecDepth 100000 in
theorem e148_15 {L : Lo} {S : List Value} {h : Hp} {x0 x1 x2 x3 : Option Value} {v : Int32} : Run 148 15 (x0 :: x1 :: x2 :: x3 :: some (.int v) :: L) S h = Run 148 17 (x0 :: x1 :: x2 :: x3 :: some (.int v) :: L) (.int v :: S) h := Rg rfl
set_option maxRecDepth 100000 in
theorem e148_17 {L : Lo} {S : List Value} {h : Hp} {x : Int32} : Run 148 17 L (.int x :: S) h = if x = 0 then Run 148 24 L S h else Run 148 20 L S h := Rbr (c := cnd .eq x 0 = true) (off := 7) rfl rfl cnd_eq
set_option maxRecDepth 100000 in
theorem e148_20 {L : Lo} {S : List Value} {h : Hp} : Run 148 20 L S h = Run 148 21 L (.int 1 :: S) h := Rg rfl
set_option maxRecDepth 100000 in
theorem e148_21 {L : Lo} {S : List Value} {h : Hp} : Run 148 21 L S h = Run 148 25 L S h := Rg rfl
set_option maxRecDepth 100000 in
theorem e148_24 {L : Lo} {S : List Value} {h : Hp} : Run 148 24 L S h = Run 148 25 L (.int 0 :: S) h := Rg rfl
set_option maxRecDepth 100000 in
theorem e148_25 {L : Lo} {S : List Value} {h : Hp} {x0 x1 x2 x3 x4 : Option Value} {y : Option Value} {v : Int32} : Run 148 25 (x0 :: x1 :: x2 :: x3 :: x4 :: y :: L) (.int v :: S) h = Run 148 27 (x0 :: x1 :: x2 :: x3 :: ck x4 :: some (.int v) :: L) S h := Rg rfl
set_option maxRecDepth 100000 in
theorem e148_27 {L : Lo} {S : List Value} {h : Hp} {x0 x1 x2 : Option Value} {v : Int32} : Run 148 27 (x0 :: x1 :: x2 :: some (.int v) :: L) S h = Run 148 28 (x0 :: x1 :: x2 :: some (.int v) :: L) (.int v :: S) h := Rg rfl
set_option maxRecDepth 100000 in
theorem e148_28 {L : Lo} {S : List Value} {h : Hp} : Run 148 28 L S h = Run 148 29 L (.int 1 :: S) h := Rg rfl
set_option maxRecDepth 100000 in
theorem e148_29 {L : Lo} {S : List Value} {h : Hp} {x z : Int32} : Run 148 29 L (.int z :: .int x :: S) h = Run 148 30 L (.int (x >>> (z &&& 31)) :: S) h := Rg rfl
set_option maxRecDepth 100000 in
theorem e148_30 {L : Lo} {S : List Value} {h : Hp} : Run 148 30 L S h = Run 148 31 L (.int 3 :: S) h := Rg rfl
set_option maxRecDepth 100000 in
theorem e148_31 {L : Lo} {h : Hp} {a1 : Int32} {a0 : Int32} : Run 148 31 L [.int a1, .int a0] h = (Run 120 0 [some (.int a0), some (.int a1)] [] h).bind fun o => aft 148 31 34 L [] o := Rc (c := 120) (As := [.int a0, .int a1]) (S' := []) (pc' := 34) rfl
set_option maxRecDepth 100000 in
theorem e148_34 {L : Lo} {S : List Value} {h : Hp} {x0 x1 x2 x3 x4 x5 : Option Value} {y : Option Value} {v : Int32} : Run 148 34 (x0 :: x1 :: x2 :: x3 :: x4 :: x5 :: y :: L) (.int v :: S) h = Run 148 36 (x0 :: x1 :: x2 :: x3 :: x4 :: ck x5 :: some (.int v) :: L) S h := Rg rfl
set_option maxRecDepth 100000 in
theorem e148_36 {L : Lo} {S : List Value} {h : Hp} {x0 : Option Value} {v : Int32} : Run 148 36 (x0 :: some (.int v) :: L) S h = Run 148 37 (x0 :: some (.int v) :: L) (.int v :: S) h := Rg rfl
set_option maxRecDepth 100000 in
theorem e148_37 {L : Lo} {S : List Value} {h : Hp} {x0 x1 : Option Value} {v : Int32} : Run 148 37 (x0 :: x1 :: some (.int v) :: L) S h = Run 148 38 (x0 :: x1 :: some (.int v) :: L) (.int v :: S) h := Rg rfl
set_option maxRecDepth 100000 in
theorem e148_38 {L : Lo} {S : List Value} {h : Hp} {x z : Int32} : Run 148 38 L (.int z :: .int x :: S) h = if x = z then Run 148 41 L S h else Run 148 89 L S h := RbrN (c := cnd .ne x z = true) (off := 51) rfl rfl cnd_ne
set_option maxRecDepth 100000 in
theorem e148_41 {L : Lo} {S : List Value} {h : Hp} {v : Nat} : Run 148 41 (some (.ref v) :: L) S h = Run 148 42 (some (.ref v) :: L) (.ref v :: S) h := Rg rfl
set_option maxRecDepth 100000 in
theorem e148_42 {L : Lo} {S : List Value} {h : Hp} {x0 : Option Value} {v : Int32} : Run 148 42 (x0 :: some (.int v) :: L) S h = Run 148 43 (x0 :: some (.int v) :: L) (.int v :: S) h := Rg rfl
set_option maxRecDepth 100000 in
theorem e148_43 {L : Lo} {S : List Value} {h : Hp} {x0 x1 x2 x3 : Option Value} {v : Int32} : Run 148 43 (x0 :: x1 :: x2 :: x3 :: some (.int v) :: L) S h = Run 148 45 (x0 :: x1 :: x2 :: x3 :: some (.int v) :: L) (.int v :: S) h := Rg rfl
set_option maxRecDepth 100000 in
theorem e148_45 {L : Lo} {S : List Value} {h : Hp} {x0 x1 : Option Value} {v : Int32} : Run 148 45 (x0 :: x1 :: some (.int v) :: L) S h = Run 148 46 (x0 :: x1 :: some (.int v) :: L) (.int v :: S) h := Rg rfl
set_option maxRecDepth 100000 in
theorem e148_46 {L : Lo} {S : List Value} {h : Hp} {x0 x1 x2 x3 x4 x5 : Option Value} {v : Int32} : Run 148 46 (x0 :: x1 :: x2 :: x3 :: x4 :: x5 :: some (.int v) :: L) S h = Run 148 48 (x0 :: x1 :: x2 :: x3 :: x4 :: x5 :: some (.int v) :: L) (.int v :: S) h := Rg rfl
set_option maxRecDepth 100000 in
theorem e148_48 {L : Lo} {h : Hp} {a4 : Int32} {a3 : Int32} {a2 : Int32} {a1 : Int32} {a0 : Nat} : Run 148 48 L [.int a4, .int a3, .int a2, .int a1, .ref a0] h = (Run 133 0 [some (.ref a0), some (.int a1), some (.int a2), some (.int a3), some (.int a4), none] [] h).bind fun o => aft 148 48 51 L [] o := Rc (c := 133) (As := [.ref a0, .int a1, .int a2, .int a3, .int a4]) (S' := []) (pc' := 51) rfl
set_option maxRecDepth 100000 in
theorem e148_51 {L : Lo} {S : List Value} {h : Hp} : Run 148 51 L S h = Run 148 54 L (.int (-901) :: S) h := Rg rfl
set_option maxRecDepth 100000 in
theorem e148_54 {L : Lo} {S : List Value} {h : Hp} {x z : Int32} : Run 148 54 L (.int z :: .int x :: S) h = if x = z then Run 148 57 L S h else Run 148 87 L S h := RbrN (c := cnd .ne x z = true) (off := 33) rfl rfl cnd_ne
set_option maxRecDepth 100000 in
theorem e148_57 {L : Lo} {S : List Value} {h : Hp} {v : Nat} : Run 148 57 (some (.ref v) :: L) S h = Run 148 58 (some (.ref v) :: L) (.ref v :: S) h := Rg rfl
set_option maxRecDepth 100000 in
theorem e148_58 {L : Lo} {S : List Value} {h : Hp} {x0 : Option Value} {v : Int32} : Run 148 58 (x0 :: some (.int v) :: L) S h = Run 148 59 (x0 :: some (.int v) :: L) (.int v :: S) h := Rg rfl
set_option maxRecDepth 100000 in
theorem e148_59 {L : Lo} {S : List Value} {h : Hp} {x0 x1 : Option Value} {v : Int32} : Run 148 59 (x0 :: x1 :: some (.int v) :: L) S h = Run 148 60 (x0 :: x1 :: some (.int v) :: L) (.int v :: S) h := Rg rfl
set_option maxRecDepth 100000 in
theorem e148_60 {L : Lo} {h : Hp} {a2 : Int32} {a1 : Int32} {a0 : Nat} : Run 148 60 L [.int a2, .int a1, .ref a0] h = (Run 134 0 [some (.ref a0), some (.int a1), some (.int a2), none] [] h).bind fun o => aft 148 60 63 L [] o := Rc (c := 134) (As := [.ref a0, .int a1, .int a2]) (S' := []) (pc' := 63) rfl
set_option maxRecDepth 100000 in
theorem e148_63 {L : Lo} {S : List Value} {h : Hp} : Run 148 63 L S h = Run 148 66 L (.int (-901) :: S) h := Rg rfl
set_option maxRecDepth 100000 in
theorem e148_66 {L : Lo} {S : List Value} {h : Hp} {x z : Int32} : Run 148 66 L (.int z :: .int x :: S) h = if x = z then Run 148 69 L S h else Run 148 87 L S h := RbrN (c := cnd .ne x z = true) (off := 21) rfl rfl cnd_ne
set_option maxRecDepth 100000 in
theorem e148_69 {L : Lo} {S : List Value} {h : Hp} {v : Nat} : Run 148 69 (some (.ref v) :: L) S h = Run 148 70 (some (.ref v) :: L) (.ref v :: S) h := Rg rfl
set_option maxRecDepth 100000 in
theorem e148_70 {L : Lo} {S : List Value} {h : Hp} {x0 : Option Value} {v : Int32} : Run 148 70 (x0 :: some (.int v) :: L) S h = Run 148 71 (x0 :: some (.int v) :: L) (.int v :: S) h := Rg rfl
set_option maxRecDepth 100000 in
theorem e148_71 {L : Lo} {S : List Value} {h : Hp} {x0 x1 x2 x3 : Option Value} {v : Int32} : Run 148 71 (x0 :: x1 :: x2 :: x3 :: some (.int v) :: L) S h = Run 148 73 (x0 :: x1 :: x2 :: x3 :: some (.int v) :: L) (.int v :: S) h := Rg rfl
set_option maxRecDepth 100000 in
theorem e148_73 {L : Lo} {S : List Value} {h : Hp} {x0 x1 : Option Value} {v : Int32} : Run 148 73 (x0 :: x1 :: some (.int v) :: L) S h = Run 148 74 (x0 :: x1 :: some (.int v) :: L) (.int v :: S) h := Rg rfl
set_option maxRecDepth 100000 in
theorem e148_74 {L : Lo} {h : Hp} {a3 : Int32} {a2 : Int32} {a1 : Int32} {a0 : Nat} : Run 148 74 L [.int a3, .int a2, .int a1, .ref a0] h = (Run 132 0 [some (.ref a0), some (.int a1), some (.int a2), some (.int a3), none] [] h).bind fun o => aft 148 74 77 L [] o := Rc (c := 132) (As := [.ref a0, .int a1, .int a2, .int a3]) (S' := []) (pc' := 77) rfl
set_option maxRecDepth 100000 in
theorem e148_77 {L : Lo} {S : List Value} {h : Hp} : Run 148 77 L S h = Run 148 80 L (.int (-901) :: S) h := Rg rfl
set_option maxRecDepth 100000 in
theorem e148_80 {L : Lo} {S : List Value} {h : Hp} {x z : Int32} : Run 148 80 L (.int z :: .int x :: S) h = if x = z then Run 148 83 L S h else Run 148 87 L S h := RbrN (c := cnd .ne x z = true) (off := 7) rfl rfl cnd_ne
set_option maxRecDepth 100000 in
theorem e148_83 {L : Lo} {S : List Value} {h : Hp} : Run 148 83 L S h = Run 148 84 L (.int 1 :: S) h := Rg rfl
set_option maxRecDepth 100000 in
theorem e148_84 {L : Lo} {S : List Value} {h : Hp} : Run 148 84 L S h = Run 148 88 L S h := Rg rfl
set_option maxRecDepth 100000 in
theorem e148_87 {L : Lo} {S : List Value} {h : Hp} : Run 148 87 L S h = Run 148 88 L (.int 0 :: S) h := Rg rfl
set_option maxRecDepth 100000 in
theorem e148_88 {L : Lo} {h : Hp} {x : Int32} (hx : narrow .boolean (.int x) = .int x) : Run 148 88 L [.int x] h = some (.inl (some (.int x)), h) := Rd (if_pos hx)
set_option maxRecDepth 100000 in
theorem e148_89 {L : Lo} {S : List Value} {h : Hp} {v : Nat} : Run 148 89 (some (.ref v) :: L) S h = Run 148 90 (some (.ref v) :: L) (.ref v :: S) h := Rg rfl
set_option maxRecDepth 100000 in
theorem e148_90 {L : Lo} {S : List Value} {h : Hp} {x0 : Option Value} {v : Int32} : Run 148 90 (x0 :: some (.int v) :: L) S h = Run 148 91 (x0 :: some (.int v) :: L) (.int v :: S) h := Rg rfl
set_option maxRecDepth 100000 in
theorem e148_91 {L : Lo} {S : List Value} {h : Hp} {x0 x1 x2 x3 : Option Value} {v : Int32} : Run 148 91 (x0 :: x1 :: x2 :: x3 :: some (.int v) :: L) S h = Run 148 93 (x0 :: x1 :: x2 :: x3 :: some (.int v) :: L) (.int v :: S) h := Rg rfl
set_option maxRecDepth 100000 in
theorem e148_93 {L : Lo} {S : List Value} {h : Hp} {x0 x1 : Option Value} {v : Int32} : Run 148 93 (x0 :: x1 :: some (.int v) :: L) S h = Run 148 94 (x0 :: x1 :: some (.int v) :: L) (.int v :: S) h := Rg rfl
set_option maxRecDepth 100000 in
theorem e148_94 {L : Lo} {h : Hp} {a3 : Int32} {a2 : Int32} {a1 : Int32} {a0 : Nat} : Run 148 94 L [.int a3, .int a2, .int a1, .ref a0] h = (Run 132 0 [some (.ref a0), some (.int a1), some (.int a2), some (.int a3), none] [] h).bind fun o => aft 148 94 97 L [] o := Rc (c := 132) (As := [.ref a0, .int a1, .int a2, .int a3]) (S' := []) (pc' := 97) rfl
set_option maxRecDepth 100000 in
theorem e148_97 {L : Lo} {S : List Value} {h : Hp} {x0 x1 x2 x3 x4 x5 x6 : Option Value} {y : Option Value} {v : Int32} : Run 148 97 (x0 :: x1 :: x2 :: x3 :: x4 :: x5 :: x6 :: y :: L) (.int v :: S) h = Run 148 99 (x0 :: x1 :: x2 :: x3 :: x4 :: x5 :: ck x6 :: some (.int v) :: L) S h := Rg rfl
set_option maxRecDepth 100000 in
theorem e148_99 {L : Lo} {S : List Value} {h : Hp} {v : Nat} : Run 148 99 (some (.ref v) :: L) S h = Run 148 100 (some (.ref v) :: L) (.ref v :: S) h := Rg rfl
set_option maxRecDepth 100000 in
theorem e148_100 {L : Lo} {S : List Value} {h : Hp} {x0 : Option Value} {v : Int32} : Run 148 100 (x0 :: some (.int v) :: L) S h = Run 148 101 (x0 :: some (.int v) :: L) (.int v :: S) h := Rg rfl
set_option maxRecDepth 100000 in
theorem e148_101 {L : Lo} {S : List Value} {h : Hp} : Run 148 101 L S h = Run 148 103 L (.int 9 :: S) h := Rg rfl
set_option maxRecDepth 100000 in
theorem e148_103 {L : Lo} {S : List Value} {h : Hp} {x0 x1 x2 x3 x4 : Option Value} {v : Int32} : Run 148 103 (x0 :: x1 :: x2 :: x3 :: x4 :: some (.int v) :: L) S h = Run 148 105 (x0 :: x1 :: x2 :: x3 :: x4 :: some (.int v) :: L) (.int v :: S) h := Rg rfl
set_option maxRecDepth 100000 in
theorem e148_105 {L : Lo} {S : List Value} {h : Hp} {x z : Int32} : Run 148 105 L (.int z :: .int x :: S) h = Run 148 106 L (.int (x + z) :: S) h := Rg rfl
set_option maxRecDepth 100000 in
theorem e148_106 {L : Lo} {h : Hp} {a2 : Int32} {a1 : Int32} {a0 : Nat} : Run 148 106 L [.int a2, .int a1, .ref a0] h = (Run 126 0 [some (.ref a0), some (.int a1), some (.int a2), none] [] h).bind fun o => aft 148 106 109 L [] o := Rc (c := 126) (As := [.ref a0, .int a1, .int a2]) (S' := []) (pc' := 109) rfl
set_option maxRecDepth 100000 in
theorem e148_109 {L : Lo} {S : List Value} {h : Hp} {x0 x1 x2 x3 x4 x5 x6 x7 : Option Value} {y : Option Value} {v : Int32} : Run 148 109 (x0 :: x1 :: x2 :: x3 :: x4 :: x5 :: x6 :: x7 :: y :: L) (.int v :: S) h = Run 148 111 (x0 :: x1 :: x2 :: x3 :: x4 :: x5 :: x6 :: ck x7 :: some (.int v) :: L) S h := Rg rfl
set_option maxRecDepth 100000 in
theorem e148_111 {L : Lo} {S : List Value} {h : Hp} {x0 x1 x2 x3 x4 x5 : Option Value} {v : Int32} : Run 148 111 (x0 :: x1 :: x2 :: x3 :: x4 :: x5 :: some (.int v) :: L) S h = Run 148 113 (x0 :: x1 :: x2 :: x3 :: x4 :: x5 :: some (.int v) :: L) (.int v :: S) h := Rg rfl
set_option maxRecDepth 100000 in
theorem e148_113 {L : Lo} {S : List Value} {h : Hp} {x : Int32} : Run 148 113 L (.int x :: S) h = if x = 0 then Run 148 116 L S h else Run 148 120 L S h := RbrN (c := cnd .ne x 0 = true) (off := 7) rfl rfl cnd_ne
set_option maxRecDepth 100000 in
theorem e148_116 {L : Lo} {S : List Value} {h : Hp} : Run 148 116 L S h = Run 148 117 L (.int 3 :: S) h := Rg rfl
set_option maxRecDepth 100000 in
theorem e148_117 {L : Lo} {S : List Value} {h : Hp} : Run 148 117 L S h = Run 148 132 L S h := Rg rfl
set_option maxRecDepth 100000 in
theorem e148_120 {L : Lo} {S : List Value} {h : Hp} {x0 x1 x2 x3 x4 x5 : Option Value} {v : Int32} : Run 148 120 (x0 :: x1 :: x2 :: x3 :: x4 :: x5 :: some (.int v) :: L) S h = Run 148 122 (x0 :: x1 :: x2 :: x3 :: x4 :: x5 :: some (.int v) :: L) (.int v :: S) h := Rg rfl
set_option maxRecDepth 100000 in
theorem e148_122 {L : Lo} {S : List Value} {h : Hp} : Run 148 122 L S h = Run 148 123 L (.int 1 :: S) h := Rg rfl
set_option maxRecDepth 100000 in
theorem e148_123 {L : Lo} {S : List Value} {h : Hp} {x z : Int32} : Run 148 123 L (.int z :: .int x :: S) h = if x = z then Run 148 126 L S h else Run 148 130 L S h := RbrN (c := cnd .ne x z = true) (off := 7) rfl rfl cnd_ne
set_option maxRecDepth 100000 in
theorem e148_126 {L : Lo} {S : List Value} {h : Hp} : Run 148 126 L S h = Run 148 127 L (.int 4 :: S) h := Rg rfl
set_option maxRecDepth 100000 in
theorem e148_127 {L : Lo} {S : List Value} {h : Hp} : Run 148 127 L S h = Run 148 132 L S h := Rg rfl
set_option maxRecDepth 100000 in
theorem e148_130 {L : Lo} {S : List Value} {h : Hp} : Run 148 130 L S h = Run 148 132 L (.int 7 :: S) h := Rg rfl
set_option maxRecDepth 100000 in
theorem e148_132 {L : Lo} {S : List Value} {h : Hp} {x0 x1 x2 x3 x4 x5 x6 x7 x8 : Option Value} {y : Option Value} {v : Int32} : Run 148 132 (x0 :: x1 :: x2 :: x3 :: x4 :: x5 :: x6 :: x7 :: x8 :: y :: L) (.int v :: S) h = Run 148 134 (x0 :: x1 :: x2 :: x3 :: x4 :: x5 :: x6 :: x7 :: ck x8 :: some (.int v) :: L) S h := Rg rfl
set_option maxRecDepth 100000 in
theorem e148_134 {L : Lo} {S : List Value} {h : Hp} {v : Nat} : Run 148 134 (some (.ref v) :: L) S h = Run 148 135 (some (.ref v) :: L) (.ref v :: S) h := Rg rfl
set_option maxRecDepth 100000 in
theorem e148_135 {L : Lo} {S : List Value} {h : Hp} {x0 x1 : Option Value} {v : Int32} : Run 148 135 (x0 :: x1 :: some (.int v) :: L) S h = Run 148 136 (x0 :: x1 :: some (.int v) :: L) (.int v :: S) h := Rg rfl
set_option maxRecDepth 100000 in
theorem e148_136 {L : Lo} {S : List Value} {h : Hp} {x0 x1 x2 x3 x4 x5 x6 x7 x8 : Option Value} {v : Int32} : Run 148 136 (x0 :: x1 :: x2 :: x3 :: x4 :: x5 :: x6 :: x7 :: x8 :: some (.int v) :: L) S h = Run 148 138 (x0 :: x1 :: x2 :: x3 :: x4 :: x5 :: x6 :: x7 :: x8 :: some (.int v) :: L) (.int v :: S) h := Rg rfl
set_option maxRecDepth 100000 in
theorem e148_138 {L : Lo} {h : Hp} {a2 : Int32} {a1 : Int32} {a0 : Nat} : Run 148 138 L [.int a2, .int a1, .ref a0] h = (Run 126 0 [some (.ref a0), some (.int a1), some (.int a2), none] [] h).bind fun o => aft 148 138 141 L [] o := Rc (c := 126) (As := [.ref a0, .int a1, .int a2]) (S' := []) (pc' := 141) rfl
set_option maxRecDepth 100000 in
theorem e148_141 {L : Lo} {S : List Value} {h : Hp} {x0 x1 x2 x3 x4 x5 x6 x7 x8 x9 : Option Value} {y : Option Value} {v : Int32} : Run 148 141 (x0 :: x1 :: x2 :: x3 :: x4 :: x5 :: x6 :: x7 :: x8 :: x9 :: y :: L) (.int v :: S) h = Run 148 143 (x0 :: x1 :: x2 :: x3 :: x4 :: x5 :: x6 :: x7 :: x8 :: ck x9 :: some (.int v) :: L) S h := Rg rfl
set_option maxRecDepth 100000 in
theorem e148_143 {L : Lo} {S : List Value} {h : Hp} {v : Nat} : Run 148 143 (some (.ref v) :: L) S h = Run 148 144 (some (.ref v) :: L) (.ref v :: S) h := Rg rfl
set_option maxRecDepth 100000 in
theorem e148_144 {L : Lo} {S : List Value} {h : Hp} {x0 x1 : Option Value} {v : Int32} : Run 148 144 (x0 :: x1 :: some (.int v) :: L) S h = Run 148 145 (x0 :: x1 :: some (.int v) :: L) (.int v :: S) h := Rg rfl
set_option maxRecDepth 100000 in
theorem e148_145 {L : Lo} {S : List Value} {h : Hp} : Run 148 145 L S h = Run 148 146 L (.int 5 :: S) h := Rg rfl
set_option maxRecDepth 100000 in
theorem e148_146 {L : Lo} {h : Hp} {a2 : Int32} {a1 : Int32} {a0 : Nat} : Run 148 146 L [.int a2, .int a1, .ref a0] h = (Run 126 0 [some (.ref a0), some (.int a1), some (.int a2), none] [] h).bind fun o => aft 148 146 149 L [] o := Rc (c := 126) (As := [.ref a0, .int a1, .int a2]) (S' := []) (pc' := 149) rfl
set_option maxRecDepth 100000 in
theorem e148_149 {L : Lo} {S : List Value} {h : Hp} {v : Nat} : Run 148 149 (some (.ref v) :: L) S h = Run 148 150 (some (.ref v) :: L) (.ref v :: S) h := Rg rfl
set_option maxRecDepth 100000 in
theorem e148_150 {L : Lo} {S : List Value} {h : Hp} {x0 x1 : Option Value} {v : Int32} : Run 148 150 (x0 :: x1 :: some (.int v) :: L) S h = Run 148 151 (x0 :: x1 :: some (.int v) :: L) (.int v :: S) h := Rg rfl
set_option maxRecDepth 100000 in
theorem e148_151 {L : Lo} {S : List Value} {h : Hp} : Run 148 151 L S h = Run 148 153 L (.int 6 :: S) h := Rg rfl
set_option maxRecDepth 100000 in
theorem e148_153 {L : Lo} {h : Hp} {a3 : Int32} {a2 : Int32} {a1 : Nat} {a0 : Int32} : Run 148 153 L [.int a3, .int a2, .ref a1, .int a0] h = (Run 126 0 [some (.ref a1), some (.int a2), some (.int a3), none] [] h).bind fun o => aft 148 153 156 L [.int a0] o := Rc (c := 126) (As := [.ref a1, .int a2, .int a3]) (S' := [.int a0]) (pc' := 156) rfl
set_option maxRecDepth 100000 in
theorem e148_156 {L : Lo} {S : List Value} {h : Hp} {x z : Int32} : Run 148 156 L (.int z :: .int x :: S) h = Run 148 157 L (.int (x + z) :: S) h := Rg rfl
set_option maxRecDepth 100000 in
theorem e148_157 {L : Lo} {S : List Value} {h : Hp} {x0 x1 x2 x3 x4 x5 x6 x7 x8 x9 x10 : Option Value} {y : Option Value} {v : Int32} : Run 148 157 (x0 :: x1 :: x2 :: x3 :: x4 :: x5 :: x6 :: x7 :: x8 :: x9 :: x10 :: y :: L) (.int v :: S) h = Run 148 159 (x0 :: x1 :: x2 :: x3 :: x4 :: x5 :: x6 :: x7 :: x8 :: x9 :: ck x10 :: some (.int v) :: L) S h := Rg rfl
set_option maxRecDepth 100000 in
theorem e148_159 {L : Lo} {S : List Value} {h : Hp} {v : Nat} : Run 148 159 (some (.ref v) :: L) S h = Run 148 160 (some (.ref v) :: L) (.ref v :: S) h := Rg rfl
set_option maxRecDepth 100000 in
theorem e148_160 {L : Lo} {S : List Value} {h : Hp} {x0 : Option Value} {v : Int32} : Run 148 160 (x0 :: some (.int v) :: L) S h = Run 148 161 (x0 :: some (.int v) :: L) (.int v :: S) h := Rg rfl
set_option maxRecDepth 100000 in
theorem e148_161 {L : Lo} {S : List Value} {h : Hp} : Run 148 161 L S h = Run 148 162 L (.int 3 :: S) h := Rg rfl
set_option maxRecDepth 100000 in
theorem e148_162 {L : Lo} {h : Hp} {a2 : Int32} {a1 : Int32} {a0 : Nat} : Run 148 162 L [.int a2, .int a1, .ref a0] h = (Run 126 0 [some (.ref a0), some (.int a1), some (.int a2), none] [] h).bind fun o => aft 148 162 165 L [] o := Rc (c := 126) (As := [.ref a0, .int a1, .int a2]) (S' := []) (pc' := 165) rfl
set_option maxRecDepth 100000 in
theorem e148_165 {L : Lo} {S : List Value} {h : Hp} {x : Int32} : Run 148 165 L (.int x :: S) h = if x ≤ 0 then Run 148 201 L S h else Run 148 168 L S h := Rbr (c := cnd .le x 0 = true) (off := 36) rfl rfl cnd_le
set_option maxRecDepth 100000 in
theorem e148_168 {L : Lo} {S : List Value} {h : Hp} {v : Nat} : Run 148 168 (some (.ref v) :: L) S h = Run 148 169 (some (.ref v) :: L) (.ref v :: S) h := Rg rfl
set_option maxRecDepth 100000 in
theorem e148_169 {L : Lo} {S : List Value} {h : Hp} {x0 x1 : Option Value} {v : Int32} : Run 148 169 (x0 :: x1 :: some (.int v) :: L) S h = Run 148 170 (x0 :: x1 :: some (.int v) :: L) (.int v :: S) h := Rg rfl
set_option maxRecDepth 100000 in
theorem e148_170 {L : Lo} {S : List Value} {h : Hp} : Run 148 170 L S h = Run 148 171 L (.int 3 :: S) h := Rg rfl
set_option maxRecDepth 100000 in
theorem e148_171 {L : Lo} {h : Hp} {a2 : Int32} {a1 : Int32} {a0 : Nat} : Run 148 171 L [.int a2, .int a1, .ref a0] h = (Run 126 0 [some (.ref a0), some (.int a1), some (.int a2), none] [] h).bind fun o => aft 148 171 174 L [] o := Rc (c := 126) (As := [.ref a0, .int a1, .int a2]) (S' := []) (pc' := 174) rfl
set_option maxRecDepth 100000 in
theorem e148_174 {L : Lo} {S : List Value} {h : Hp} {x : Int32} : Run 148 174 L (.int x :: S) h = if x ≤ 0 then Run 148 201 L S h else Run 148 177 L S h := Rbr (c := cnd .le x 0 = true) (off := 27) rfl rfl cnd_le
set_option maxRecDepth 100000 in
theorem e148_177 {L : Lo} {S : List Value} {h : Hp} {v : Nat} : Run 148 177 (some (.ref v) :: L) S h = Run 148 178 (some (.ref v) :: L) (.ref v :: S) h := Rg rfl
set_option maxRecDepth 100000 in
theorem e148_178 {L : Lo} {S : List Value} {h : Hp} {v : Nat} : Run 148 178 (some (.ref v) :: L) S h = Run 148 179 (some (.ref v) :: L) (.ref v :: S) h := Rg rfl
set_option maxRecDepth 100000 in
theorem e148_179 {L : Lo} {S : List Value} {h : Hp} {x0 : Option Value} {v : Int32} : Run 148 179 (x0 :: some (.int v) :: L) S h = Run 148 180 (x0 :: some (.int v) :: L) (.int v :: S) h := Rg rfl
set_option maxRecDepth 100000 in
theorem e148_180 {L : Lo} {S : List Value} {h : Hp} : Run 148 180 L S h = Run 148 181 L (.int 1 :: S) h := Rg rfl
set_option maxRecDepth 100000 in
theorem e148_181 {L : Lo} {h : Hp} {a3 : Int32} {a2 : Int32} {a1 : Nat} {a0 : Nat} : Run 148 181 L [.int a3, .int a2, .ref a1, .ref a0] h = (Run 126 0 [some (.ref a1), some (.int a2), some (.int a3), none] [] h).bind fun o => aft 148 181 184 L [.ref a0] o := Rc (c := 126) (As := [.ref a1, .int a2, .int a3]) (S' := [.ref a0]) (pc' := 184) rfl
set_option maxRecDepth 100000 in
theorem e148_184 {L : Lo} {S : List Value} {h : Hp} {v : Nat} : Run 148 184 (some (.ref v) :: L) S h = Run 148 185 (some (.ref v) :: L) (.ref v :: S) h := Rg rfl
set_option maxRecDepth 100000 in
theorem e148_185 {L : Lo} {S : List Value} {h : Hp} {x0 x1 : Option Value} {v : Int32} : Run 148 185 (x0 :: x1 :: some (.int v) :: L) S h = Run 148 186 (x0 :: x1 :: some (.int v) :: L) (.int v :: S) h := Rg rfl
set_option maxRecDepth 100000 in
theorem e148_186 {L : Lo} {S : List Value} {h : Hp} : Run 148 186 L S h = Run 148 187 L (.int 1 :: S) h := Rg rfl
set_option maxRecDepth 100000 in
theorem e148_187 {L : Lo} {h : Hp} {a4 : Int32} {a3 : Int32} {a2 : Nat} {a1 : Int32} {a0 : Nat} : Run 148 187 L [.int a4, .int a3, .ref a2, .int a1, .ref a0] h = (Run 126 0 [some (.ref a2), some (.int a3), some (.int a4), none] [] h).bind fun o => aft 148 187 190 L [.int a1, .ref a0] o := Rc (c := 126) (As := [.ref a2, .int a3, .int a4]) (S' := [.int a1, .ref a0]) (pc' := 190) rfl
set_option maxRecDepth 100000 in
theorem e148_190 {L : Lo} {h : Hp} {a2 : Int32} {a1 : Int32} {a0 : Nat} : Run 148 190 L [.int a2, .int a1, .ref a0] h = (Run 128 0 [some (.ref a0), some (.int a1), some (.int a2), none] [] h).bind fun o => aft 148 190 193 L [] o := Rc (c := 128) (As := [.ref a0, .int a1, .int a2]) (S' := []) (pc' := 193) rfl
set_option maxRecDepth 100000 in
theorem e148_193 {L : Lo} {S : List Value} {h : Hp} : Run 148 193 L S h = Run 148 194 L (.int 3 :: S) h := Rg rfl
set_option maxRecDepth 100000 in
theorem e148_194 {L : Lo} {S : List Value} {h : Hp} {x z : Int32} : Run 148 194 L (.int z :: .int x :: S) h = if z ≤ x then Run 148 201 L S h else Run 148 197 L S h := Rbr (c := cnd .ge x z = true) (off := 7) rfl rfl cnd_ge
set_option maxRecDepth 100000 in
theorem e148_197 {L : Lo} {S : List Value} {h : Hp} : Run 148 197 L S h = Run 148 198 L (.int 1 :: S) h := Rg rfl
set_option maxRecDepth 100000 in
theorem e148_198 {L : Lo} {S : List Value} {h : Hp} : Run 148 198 L S h = Run 148 202 L S h := Rg rfl
set_option maxRecDepth 100000 in
theorem e148_201 {L : Lo} {S : List Value} {h : Hp} : Run 148 201 L S h = Run 148 202 L (.int 0 :: S) h := Rg rfl
set_option maxRecDepth 100000 in
theorem e148_202 {L : Lo} {S : List Value} {h : Hp} {x0 x1 x2 x3 x4 x5 x6 x7 x8 x9 x10 x11 : Option Value} {y : Option Value} {v : Int32} : Run 148 202 (x0 :: x1 :: x2 :: x3 :: x4 :: x5 :: x6 :: x7 :: x8 :: x9 :: x10 :: x11 :: y :: L) (.int v :: S) h = Run 148 204 (x0 :: x1 :: x2 :: x3 :: x4 :: x5 :: x6 :: x7 :: x8 :: x9 :: x10 :: ck x11 :: some (.int v) :: L) S h := Rg rfl
set_option maxRecDepth 100000 in
theorem e148_204 {L : Lo} {S : List Value} {h : Hp} {v : Nat} : Run 148 204 (some (.ref v) :: L) S h = Run 148 205 (some (.ref v) :: L) (.ref v :: S) h := Rg rfl
set_option maxRecDepth 100000 in
theorem e148_205 {L : Lo} {S : List Value} {h : Hp} {x0 : Option Value} {v : Int32} : Run 148 205 (x0 :: some (.int v) :: L) S h = Run 148 206 (x0 :: some (.int v) :: L) (.int v :: S) h := Rg rfl
set_option maxRecDepth 100000 in
theorem e148_206 {L : Lo} {S : List Value} {h : Hp} {x0 x1 x2 x3 : Option Value} {v : Int32} : Run 148 206 (x0 :: x1 :: x2 :: x3 :: some (.int v) :: L) S h = Run 148 208 (x0 :: x1 :: x2 :: x3 :: some (.int v) :: L) (.int v :: S) h := Rg rfl
set_option maxRecDepth 100000 in
theorem e148_208 {L : Lo} {S : List Value} {h : Hp} {x0 x1 : Option Value} {v : Int32} : Run 148 208 (x0 :: x1 :: some (.int v) :: L) S h = Run 148 209 (x0 :: x1 :: some (.int v) :: L) (.int v :: S) h := Rg rfl
set_option maxRecDepth 100000 in
theorem e148_209 {L : Lo} {S : List Value} {h : Hp} {x0 x1 x2 x3 x4 x5 : Option Value} {v : Int32} : Run 148 209 (x0 :: x1 :: x2 :: x3 :: x4 :: x5 :: some (.int v) :: L) S h = Run 148 211 (x0 :: x1 :: x2 :: x3 :: x4 :: x5 :: some (.int v) :: L) (.int v :: S) h := Rg rfl
set_option maxRecDepth 100000 in
theorem e148_211 {L : Lo} {h : Hp} {a4 : Int32} {a3 : Int32} {a2 : Int32} {a1 : Int32} {a0 : Nat} : Run 148 211 L [.int a4, .int a3, .int a2, .int a1, .ref a0] h = (Run 133 0 [some (.ref a0), some (.int a1), some (.int a2), some (.int a3), some (.int a4), none] [] h).bind fun o => aft 148 211 214 L [] o := Rc (c := 133) (As := [.ref a0, .int a1, .int a2, .int a3, .int a4]) (S' := []) (pc' := 214) rfl
set_option maxRecDepth 100000 in
theorem e148_214 {L : Lo} {S : List Value} {h : Hp} {x0 x1 x2 x3 x4 x5 x6 x7 x8 x9 x10 x11 x12 : Option Value} {y : Option Value} {v : Int32} : Run 148 214 (x0 :: x1 :: x2 :: x3 :: x4 :: x5 :: x6 :: x7 :: x8 :: x9 :: x10 :: x11 :: x12 :: y :: L) (.int v :: S) h = Run 148 216 (x0 :: x1 :: x2 :: x3 :: x4 :: x5 :: x6 :: x7 :: x8 :: x9 :: x10 :: x11 :: ck x12 :: some (.int v) :: L) S h := Rg rfl
set_option maxRecDepth 100000 in
theorem e148_216 {L : Lo} {S : List Value} {h : Hp} {x0 x1 x2 x3 x4 x5 x6 x7 x8 x9 x10 x11 x12 : Option Value} {v : Int32} : Run 148 216 (x0 :: x1 :: x2 :: x3 :: x4 :: x5 :: x6 :: x7 :: x8 :: x9 :: x10 :: x11 :: x12 :: some (.int v) :: L) S h = Run 148 218 (x0 :: x1 :: x2 :: x3 :: x4 :: x5 :: x6 :: x7 :: x8 :: x9 :: x10 :: x11 :: x12 :: some (.int v) :: L) (.int v :: S) h := Rg rfl
set_option maxRecDepth 100000 in
theorem e148_218 {L : Lo} {S : List Value} {h : Hp} : Run 148 218 L S h = Run 148 221 L (.int (-902) :: S) h := Rg rfl
set_option maxRecDepth 100000 in
theorem e148_221 {L : Lo} {S : List Value} {h : Hp} {x z : Int32} : Run 148 221 L (.int z :: .int x :: S) h = if x = z then Run 148 224 L S h else Run 148 263 L S h := RbrN (c := cnd .ne x z = true) (off := 42) rfl rfl cnd_ne
set_option maxRecDepth 100000 in
theorem e148_224 {L : Lo} {S : List Value} {h : Hp} {x0 x1 x2 x3 x4 x5 x6 : Option Value} {v : Int32} : Run 148 224 (x0 :: x1 :: x2 :: x3 :: x4 :: x5 :: x6 :: some (.int v) :: L) S h = Run 148 226 (x0 :: x1 :: x2 :: x3 :: x4 :: x5 :: x6 :: some (.int v) :: L) (.int v :: S) h := Rg rfl
set_option maxRecDepth 100000 in
theorem e148_226 {L : Lo} {S : List Value} {h : Hp} {x : Int32} : Run 148 226 L (.int x :: S) h = if x = 0 then Run 148 245 L S h else Run 148 229 L S h := Rbr (c := cnd .eq x 0 = true) (off := 19) rfl rfl cnd_eq
set_option maxRecDepth 100000 in
theorem e148_229 {L : Lo} {S : List Value} {h : Hp} {x0 x1 x2 x3 x4 x5 x6 x7 : Option Value} {v : Int32} : Run 148 229 (x0 :: x1 :: x2 :: x3 :: x4 :: x5 :: x6 :: x7 :: some (.int v) :: L) S h = Run 148 231 (x0 :: x1 :: x2 :: x3 :: x4 :: x5 :: x6 :: x7 :: some (.int v) :: L) (.int v :: S) h := Rg rfl
set_option maxRecDepth 100000 in
theorem e148_231 {L : Lo} {S : List Value} {h : Hp} {x : Int32} : Run 148 231 L (.int x :: S) h = if 0 < x then Run 148 245 L S h else Run 148 234 L S h := Rbr (c := cnd .gt x 0 = true) (off := 14) rfl rfl cnd_gt
set_option maxRecDepth 100000 in
theorem e148_234 {L : Lo} {S : List Value} {h : Hp} {x0 x1 x2 x3 x4 x5 : Option Value} {v : Int32} : Run 148 234 (x0 :: x1 :: x2 :: x3 :: x4 :: x5 :: some (.int v) :: L) S h = Run 148 236 (x0 :: x1 :: x2 :: x3 :: x4 :: x5 :: some (.int v) :: L) (.int v :: S) h := Rg rfl
set_option maxRecDepth 100000 in
theorem e148_236 {L : Lo} {S : List Value} {h : Hp} : Run 148 236 L S h = Run 148 237 L (.int 2 :: S) h := Rg rfl
set_option maxRecDepth 100000 in
theorem e148_237 {L : Lo} {S : List Value} {h : Hp} {x z : Int32} : Run 148 237 L (.int z :: .int x :: S) h = if x = z then Run 148 240 L S h else Run 148 261 L S h := RbrN (c := cnd .ne x z = true) (off := 24) rfl rfl cnd_ne
set_option maxRecDepth 100000 in
theorem e148_240 {L : Lo} {S : List Value} {h : Hp} {x0 x1 x2 x3 x4 x5 x6 x7 x8 x9 x10 x11 : Option Value} {v : Int32} : Run 148 240 (x0 :: x1 :: x2 :: x3 :: x4 :: x5 :: x6 :: x7 :: x8 :: x9 :: x10 :: x11 :: some (.int v) :: L) S h = Run 148 242 (x0 :: x1 :: x2 :: x3 :: x4 :: x5 :: x6 :: x7 :: x8 :: x9 :: x10 :: x11 :: some (.int v) :: L) (.int v :: S) h := Rg rfl
set_option maxRecDepth 100000 in
theorem e148_242 {L : Lo} {S : List Value} {h : Hp} {x : Int32} : Run 148 242 L (.int x :: S) h = if x = 0 then Run 148 245 L S h else Run 148 261 L S h := RbrN (c := cnd .ne x 0 = true) (off := 19) rfl rfl cnd_ne
set_option maxRecDepth 100000 in
theorem e148_245 {L : Lo} {S : List Value} {h : Hp} {v : Nat} : Run 148 245 (some (.ref v) :: L) S h = Run 148 246 (some (.ref v) :: L) (.ref v :: S) h := Rg rfl
set_option maxRecDepth 100000 in
theorem e148_246 {L : Lo} {S : List Value} {h : Hp} {x0 x1 : Option Value} {v : Int32} : Run 148 246 (x0 :: x1 :: some (.int v) :: L) S h = Run 148 247 (x0 :: x1 :: some (.int v) :: L) (.int v :: S) h := Rg rfl
set_option maxRecDepth 100000 in
theorem e148_247 {L : Lo} {S : List Value} {h : Hp} {x0 x1 x2 x3 x4 x5 x6 x7 x8 : Option Value} {v : Int32} : Run 148 247 (x0 :: x1 :: x2 :: x3 :: x4 :: x5 :: x6 :: x7 :: x8 :: some (.int v) :: L) S h = Run 148 249 (x0 :: x1 :: x2 :: x3 :: x4 :: x5 :: x6 :: x7 :: x8 :: some (.int v) :: L) (.int v :: S) h := Rg rfl
set_option maxRecDepth 100000 in
theorem e148_249 {L : Lo} {h : Hp} {a2 : Int32} {a1 : Int32} {a0 : Nat} : Run 148 249 L [.int a2, .int a1, .ref a0] h = (Run 126 0 [some (.ref a0), some (.int a1), some (.int a2), none] [] h).bind fun o => aft 148 249 252 L [] o := Rc (c := 126) (As := [.ref a0, .int a1, .int a2]) (S' := []) (pc' := 252) rfl
set_option maxRecDepth 100000 in
theorem e148_252 {L : Lo} {S : List Value} {h : Hp} {x0 x1 x2 x3 x4 x5 x6 x7 x8 x9 : Option Value} {v : Int32} : Run 148 252 (x0 :: x1 :: x2 :: x3 :: x4 :: x5 :: x6 :: x7 :: x8 :: x9 :: some (.int v) :: L) S h = Run 148 254 (x0 :: x1 :: x2 :: x3 :: x4 :: x5 :: x6 :: x7 :: x8 :: x9 :: some (.int v) :: L) (.int v :: S) h := Rg rfl
set_option maxRecDepth 100000 in
theorem e148_254 {L : Lo} {S : List Value} {h : Hp} {x z : Int32} : Run 148 254 L (.int z :: .int x :: S) h = if x = z then Run 148 257 L S h else Run 148 261 L S h := RbrN (c := cnd .ne x z = true) (off := 7) rfl rfl cnd_ne
set_option maxRecDepth 100000 in
theorem e148_257 {L : Lo} {S : List Value} {h : Hp} : Run 148 257 L S h = Run 148 258 L (.int 1 :: S) h := Rg rfl
set_option maxRecDepth 100000 in
theorem e148_258 {L : Lo} {S : List Value} {h : Hp} : Run 148 258 L S h = Run 148 262 L S h := Rg rfl
set_option maxRecDepth 100000 in
theorem e148_261 {L : Lo} {S : List Value} {h : Hp} : Run 148 261 L S h = Run 148 262 L (.int 0 :: S) h := Rg rfl
set_option maxRecDepth 100000 in
theorem e148_262 {L : Lo} {h : Hp} {x : Int32} (hx : narrow .boolean (.int x) = .int x) : Run 148 262 L [.int x] h = some (.inl (some (.int x)), h) := Rd (if_pos hx)
set_option maxRecDepth 100000 in
theorem e148_263 {L : Lo} {S : List Value} {h : Hp} {x0 x1 x2 x3 x4 x5 : Option Value} {v : Int32} : Run 148 263 (x0 :: x1 :: x2 :: x3 :: x4 :: x5 :: some (.int v) :: L) S h = Run 148 265 (x0 :: x1 :: x2 :: x3 :: x4 :: x5 :: some (.int v) :: L) (.int v :: S) h := Rg rfl
set_option maxRecDepth 100000 in
theorem e148_265 {L : Lo} {S : List Value} {h : Hp} {x : Int32} : Run 148 265 L (.int x :: S) h = if x = 0 then Run 148 268 L S h else Run 148 275 L S h := RbrN (c := cnd .ne x 0 = true) (off := 10) rfl rfl cnd_ne
set_option maxRecDepth 100000 in
theorem e148_268 {L : Lo} {S : List Value} {h : Hp} {x0 x1 x2 x3 x4 x5 x6 : Option Value} {v : Int32} : Run 148 268 (x0 :: x1 :: x2 :: x3 :: x4 :: x5 :: x6 :: some (.int v) :: L) S h = Run 148 270 (x0 :: x1 :: x2 :: x3 :: x4 :: x5 :: x6 :: some (.int v) :: L) (.int v :: S) h := Rg rfl
set_option maxRecDepth 100000 in
theorem e148_270 {L : Lo} {S : List Value} {h : Hp} : Run 148 270 L S h = Run 148 271 L (.int 4 :: S) h := Rg rfl
set_option maxRecDepth 100000 in
theorem e148_271 {L : Lo} {S : List Value} {h : Hp} {x z : Int32} (hz : ¬ z = 0) : Run 148 271 L (.int z :: .int x :: S) h = Run 148 272 L (.int (x / z) :: S) h := Rg (if_neg hz)
set_option maxRecDepth 100000 in
theorem e148_272 {L : Lo} {S : List Value} {h : Hp} : Run 148 272 L S h = Run 148 293 L S h := Rg rfl
set_option maxRecDepth 100000 in
theorem e148_275 {L : Lo} {S : List Value} {h : Hp} {x0 x1 x2 x3 x4 x5 : Option Value} {v : Int32} : Run 148 275 (x0 :: x1 :: x2 :: x3 :: x4 :: x5 :: some (.int v) :: L) S h = Run 148 277 (x0 :: x1 :: x2 :: x3 :: x4 :: x5 :: some (.int v) :: L) (.int v :: S) h := Rg rfl
set_option maxRecDepth 100000 in
theorem e148_277 {L : Lo} {S : List Value} {h : Hp} : Run 148 277 L S h = Run 148 278 L (.int 1 :: S) h := Rg rfl
set_option maxRecDepth 100000 in
theorem e148_278 {L : Lo} {S : List Value} {h : Hp} {x z : Int32} : Run 148 278 L (.int z :: .int x :: S) h = if x = z then Run 148 281 L S h else Run 148 289 L S h := RbrN (c := cnd .ne x z = true) (off := 11) rfl rfl cnd_ne
set_option maxRecDepth 100000 in
theorem e148_281 {L : Lo} {S : List Value} {h : Hp} {x0 x1 x2 x3 x4 x5 x6 : Option Value} {v : Int32} : Run 148 281 (x0 :: x1 :: x2 :: x3 :: x4 :: x5 :: x6 :: some (.int v) :: L) S h = Run 148 283 (x0 :: x1 :: x2 :: x3 :: x4 :: x5 :: x6 :: some (.int v) :: L) (.int v :: S) h := Rg rfl
set_option maxRecDepth 100000 in
theorem e148_283 {L : Lo} {S : List Value} {h : Hp} : Run 148 283 L S h = Run 148 285 L (.int 6 :: S) h := Rg rfl
set_option maxRecDepth 100000 in
theorem e148_285 {L : Lo} {S : List Value} {h : Hp} {x z : Int32} (hz : ¬ z = 0) : Run 148 285 L (.int z :: .int x :: S) h = Run 148 286 L (.int (x / z) :: S) h := Rg (if_neg hz)
set_option maxRecDepth 100000 in
theorem e148_286 {L : Lo} {S : List Value} {h : Hp} : Run 148 286 L S h = Run 148 293 L S h := Rg rfl
set_option maxRecDepth 100000 in
theorem e148_289 {L : Lo} {S : List Value} {h : Hp} {x0 x1 x2 x3 x4 x5 x6 : Option Value} {v : Int32} : Run 148 289 (x0 :: x1 :: x2 :: x3 :: x4 :: x5 :: x6 :: some (.int v) :: L) S h = Run 148 291 (x0 :: x1 :: x2 :: x3 :: x4 :: x5 :: x6 :: some (.int v) :: L) (.int v :: S) h := Rg rfl
set_option maxRecDepth 100000 in
theorem e148_291 {L : Lo} {S : List Value} {h : Hp} : Run 148 291 L S h = Run 148 292 L (.int 5 :: S) h := Rg rfl
set_option maxRecDepth 100000 in
theorem e148_292 {L : Lo} {S : List Value} {h : Hp} {x z : Int32} (hz : ¬ z = 0) : Run 148 292 L (.int z :: .int x :: S) h = Run 148 293 L (.int (x / z) :: S) h := Rg (if_neg hz)
set_option maxRecDepth 100000 in
theorem e148_293 {L : Lo} {S : List Value} {h : Hp} {x0 x1 x2 x3 x4 x5 x6 x7 x8 x9 x10 x11 x12 x13 : Option Value} {y : Option Value} {v : Int32} : Run 148 293 (x0 :: x1 :: x2 :: x3 :: x4 :: x5 :: x6 :: x7 :: x8 :: x9 :: x10 :: x11 :: x12 :: x13 :: y :: L) (.int v :: S) h = Run 148 295 (x0 :: x1 :: x2 :: x3 :: x4 :: x5 :: x6 :: x7 :: x8 :: x9 :: x10 :: x11 :: x12 :: ck x13 :: some (.int v) :: L) S h := Rg rfl
set_option maxRecDepth 100000 in
theorem e148_295 {L : Lo} {S : List Value} {h : Hp} {x0 x1 x2 x3 x4 x5 x6 : Option Value} {v : Int32} : Run 148 295 (x0 :: x1 :: x2 :: x3 :: x4 :: x5 :: x6 :: some (.int v) :: L) S h = Run 148 297 (x0 :: x1 :: x2 :: x3 :: x4 :: x5 :: x6 :: some (.int v) :: L) (.int v :: S) h := Rg rfl
set_option maxRecDepth 100000 in
theorem e148_297 {L : Lo} {S : List Value} {h : Hp} {x : Int32} : Run 148 297 L (.int x :: S) h = if x ≤ 0 then Run 148 402 L S h else Run 148 300 L S h := Rbr (c := cnd .le x 0 = true) (off := 105) rfl rfl cnd_le
set_option maxRecDepth 100000 in
theorem e148_300 {L : Lo} {S : List Value} {h : Hp} {x0 x1 x2 x3 x4 x5 x6 x7 : Option Value} {v : Int32} : Run 148 300 (x0 :: x1 :: x2 :: x3 :: x4 :: x5 :: x6 :: x7 :: some (.int v) :: L) S h = Run 148 302 (x0 :: x1 :: x2 :: x3 :: x4 :: x5 :: x6 :: x7 :: some (.int v) :: L) (.int v :: S) h := Rg rfl
set_option maxRecDepth 100000 in
theorem e148_302 {L : Lo} {S : List Value} {h : Hp} {x : Int32} : Run 148 302 L (.int x :: S) h = if x = 0 then Run 148 305 L S h else Run 148 402 L S h := RbrN (c := cnd .ne x 0 = true) (off := 100) rfl rfl cnd_ne
set_option maxRecDepth 100000 in
theorem e148_305 {L : Lo} {S : List Value} {h : Hp} {x0 x1 x2 x3 x4 x5 : Option Value} {v : Int32} : Run 148 305 (x0 :: x1 :: x2 :: x3 :: x4 :: x5 :: some (.int v) :: L) S h = Run 148 307 (x0 :: x1 :: x2 :: x3 :: x4 :: x5 :: some (.int v) :: L) (.int v :: S) h := Rg rfl
set_option maxRecDepth 100000 in
theorem e148_307 {L : Lo} {S : List Value} {h : Hp} : Run 148 307 L S h = Run 148 308 L (.int 2 :: S) h := Rg rfl
set_option maxRecDepth 100000 in
theorem e148_308 {L : Lo} {S : List Value} {h : Hp} {x z : Int32} : Run 148 308 L (.int z :: .int x :: S) h = if x < z then Run 148 316 L S h else Run 148 311 L S h := Rbr (c := cnd .lt x z = true) (off := 8) rfl rfl cnd_lt
set_option maxRecDepth 100000 in
theorem e148_311 {L : Lo} {S : List Value} {h : Hp} {x0 x1 x2 x3 x4 x5 x6 x7 x8 x9 x10 x11 : Option Value} {v : Int32} : Run 148 311 (x0 :: x1 :: x2 :: x3 :: x4 :: x5 :: x6 :: x7 :: x8 :: x9 :: x10 :: x11 :: some (.int v) :: L) S h = Run 148 313 (x0 :: x1 :: x2 :: x3 :: x4 :: x5 :: x6 :: x7 :: x8 :: x9 :: x10 :: x11 :: some (.int v) :: L) (.int v :: S) h := Rg rfl
set_option maxRecDepth 100000 in
theorem e148_313 {L : Lo} {S : List Value} {h : Hp} {x : Int32} : Run 148 313 L (.int x :: S) h = if x = 0 then Run 148 402 L S h else Run 148 316 L S h := Rbr (c := cnd .eq x 0 = true) (off := 89) rfl rfl cnd_eq
set_option maxRecDepth 100000 in
theorem e148_316 {L : Lo} {S : List Value} {h : Hp} {x0 x1 x2 x3 x4 x5 x6 x7 x8 x9 x10 x11 x12 : Option Value} {v : Int32} : Run 148 316 (x0 :: x1 :: x2 :: x3 :: x4 :: x5 :: x6 :: x7 :: x8 :: x9 :: x10 :: x11 :: x12 :: some (.int v) :: L) S h = Run 148 318 (x0 :: x1 :: x2 :: x3 :: x4 :: x5 :: x6 :: x7 :: x8 :: x9 :: x10 :: x11 :: x12 :: some (.int v) :: L) (.int v :: S) h := Rg rfl
set_option maxRecDepth 100000 in
theorem e148_318 {L : Lo} {S : List Value} {h : Hp} {x : Int32} : Run 148 318 L (.int x :: S) h = if x < 0 then Run 148 402 L S h else Run 148 321 L S h := Rbr (c := cnd .lt x 0 = true) (off := 84) rfl rfl cnd_lt
set_option maxRecDepth 100000 in
theorem e148_321 {L : Lo} {S : List Value} {h : Hp} {x0 x1 x2 x3 x4 x5 x6 x7 x8 x9 x10 x11 x12 : Option Value} {v : Int32} : Run 148 321 (x0 :: x1 :: x2 :: x3 :: x4 :: x5 :: x6 :: x7 :: x8 :: x9 :: x10 :: x11 :: x12 :: some (.int v) :: L) S h = Run 148 323 (x0 :: x1 :: x2 :: x3 :: x4 :: x5 :: x6 :: x7 :: x8 :: x9 :: x10 :: x11 :: x12 :: some (.int v) :: L) (.int v :: S) h := Rg rfl
set_option maxRecDepth 100000 in
theorem e148_323 {L : Lo} {S : List Value} {h : Hp} {x0 x1 x2 x3 x4 x5 x6 x7 x8 x9 x10 x11 x12 x13 : Option Value} {v : Int32} : Run 148 323 (x0 :: x1 :: x2 :: x3 :: x4 :: x5 :: x6 :: x7 :: x8 :: x9 :: x10 :: x11 :: x12 :: x13 :: some (.int v) :: L) S h = Run 148 325 (x0 :: x1 :: x2 :: x3 :: x4 :: x5 :: x6 :: x7 :: x8 :: x9 :: x10 :: x11 :: x12 :: x13 :: some (.int v) :: L) (.int v :: S) h := Rg rfl
set_option maxRecDepth 100000 in
theorem e148_325 {L : Lo} {S : List Value} {h : Hp} {x z : Int32} : Run 148 325 L (.int z :: .int x :: S) h = if z < x then Run 148 402 L S h else Run 148 328 L S h := Rbr (c := cnd .gt x z = true) (off := 77) rfl rfl cnd_gt
set_option maxRecDepth 100000 in
theorem e148_328 {L : Lo} {S : List Value} {h : Hp} {v : Nat} : Run 148 328 (some (.ref v) :: L) S h = Run 148 329 (some (.ref v) :: L) (.ref v :: S) h := Rg rfl
set_option maxRecDepth 100000 in
theorem e148_329 {L : Lo} {S : List Value} {h : Hp} {x0 x1 : Option Value} {v : Int32} : Run 148 329 (x0 :: x1 :: some (.int v) :: L) S h = Run 148 330 (x0 :: x1 :: some (.int v) :: L) (.int v :: S) h := Rg rfl
set_option maxRecDepth 100000 in
theorem e148_330 {L : Lo} {S : List Value} {h : Hp} {x0 x1 x2 x3 x4 x5 x6 x7 x8 : Option Value} {v : Int32} : Run 148 330 (x0 :: x1 :: x2 :: x3 :: x4 :: x5 :: x6 :: x7 :: x8 :: some (.int v) :: L) S h = Run 148 332 (x0 :: x1 :: x2 :: x3 :: x4 :: x5 :: x6 :: x7 :: x8 :: some (.int v) :: L) (.int v :: S) h := Rg rfl
set_option maxRecDepth 100000 in
theorem e148_332 {L : Lo} {h : Hp} {a2 : Int32} {a1 : Int32} {a0 : Nat} : Run 148 332 L [.int a2, .int a1, .ref a0] h = (Run 126 0 [some (.ref a0), some (.int a1), some (.int a2), none] [] h).bind fun o => aft 148 332 335 L [] o := Rc (c := 126) (As := [.ref a0, .int a1, .int a2]) (S' := []) (pc' := 335) rfl
set_option maxRecDepth 100000 in
theorem e148_335 {L : Lo} {S : List Value} {h : Hp} {x0 x1 x2 x3 x4 x5 x6 x7 x8 x9 : Option Value} {v : Int32} : Run 148 335 (x0 :: x1 :: x2 :: x3 :: x4 :: x5 :: x6 :: x7 :: x8 :: x9 :: some (.int v) :: L) S h = Run 148 337 (x0 :: x1 :: x2 :: x3 :: x4 :: x5 :: x6 :: x7 :: x8 :: x9 :: some (.int v) :: L) (.int v :: S) h := Rg rfl
set_option maxRecDepth 100000 in
theorem e148_337 {L : Lo} {S : List Value} {h : Hp} {x0 x1 x2 x3 x4 x5 x6 x7 x8 x9 x10 x11 x12 : Option Value} {v : Int32} : Run 148 337 (x0 :: x1 :: x2 :: x3 :: x4 :: x5 :: x6 :: x7 :: x8 :: x9 :: x10 :: x11 :: x12 :: some (.int v) :: L) S h = Run 148 339 (x0 :: x1 :: x2 :: x3 :: x4 :: x5 :: x6 :: x7 :: x8 :: x9 :: x10 :: x11 :: x12 :: some (.int v) :: L) (.int v :: S) h := Rg rfl
set_option maxRecDepth 100000 in
theorem e148_339 {L : Lo} {S : List Value} {h : Hp} {x z : Int32} : Run 148 339 L (.int z :: .int x :: S) h = Run 148 340 L (.int (x - z) :: S) h := Rg rfl
set_option maxRecDepth 100000 in
theorem e148_340 {L : Lo} {S : List Value} {h : Hp} {x z : Int32} : Run 148 340 L (.int z :: .int x :: S) h = if x = z then Run 148 343 L S h else Run 148 402 L S h := RbrN (c := cnd .ne x z = true) (off := 62) rfl rfl cnd_ne
set_option maxRecDepth 100000 in
theorem e148_343 {L : Lo} {S : List Value} {h : Hp} {x0 x1 x2 x3 x4 x5 x6 x7 x8 x9 x10 x11 x12 : Option Value} {v : Int32} : Run 148 343 (x0 :: x1 :: x2 :: x3 :: x4 :: x5 :: x6 :: x7 :: x8 :: x9 :: x10 :: x11 :: x12 :: some (.int v) :: L) S h = Run 148 345 (x0 :: x1 :: x2 :: x3 :: x4 :: x5 :: x6 :: x7 :: x8 :: x9 :: x10 :: x11 :: x12 :: some (.int v) :: L) (.int v :: S) h := Rg rfl
set_option maxRecDepth 100000 in
theorem e148_345 {L : Lo} {S : List Value} {h : Hp} {x0 x1 x2 x3 x4 x5 x6 x7 x8 x9 x10 x11 x12 x13 : Option Value} {v : Int32} : Run 148 345 (x0 :: x1 :: x2 :: x3 :: x4 :: x5 :: x6 :: x7 :: x8 :: x9 :: x10 :: x11 :: x12 :: x13 :: some (.int v) :: L) S h = Run 148 347 (x0 :: x1 :: x2 :: x3 :: x4 :: x5 :: x6 :: x7 :: x8 :: x9 :: x10 :: x11 :: x12 :: x13 :: some (.int v) :: L) (.int v :: S) h := Rg rfl
set_option maxRecDepth 100000 in
theorem e148_347 {L : Lo} {S : List Value} {h : Hp} {x z : Int32} : Run 148 347 L (.int z :: .int x :: S) h = if x = z then Run 148 371 L S h else Run 148 350 L S h := Rbr (c := cnd .eq x z = true) (off := 24) rfl rfl cnd_eq
set_option maxRecDepth 100000 in
theorem e148_350 {L : Lo} {S : List Value} {h : Hp} {v : Nat} : Run 148 350 (some (.ref v) :: L) S h = Run 148 351 (some (.ref v) :: L) (.ref v :: S) h := Rg rfl
set_option maxRecDepth 100000 in
theorem e148_351 {L : Lo} {S : List Value} {h : Hp} {x0 x1 : Option Value} {v : Int32} : Run 148 351 (x0 :: x1 :: some (.int v) :: L) S h = Run 148 352 (x0 :: x1 :: some (.int v) :: L) (.int v :: S) h := Rg rfl
set_option maxRecDepth 100000 in
theorem e148_352 {L : Lo} {S : List Value} {h : Hp} {x0 x1 x2 x3 x4 x5 x6 x7 x8 : Option Value} {v : Int32} : Run 148 352 (x0 :: x1 :: x2 :: x3 :: x4 :: x5 :: x6 :: x7 :: x8 :: some (.int v) :: L) S h = Run 148 354 (x0 :: x1 :: x2 :: x3 :: x4 :: x5 :: x6 :: x7 :: x8 :: some (.int v) :: L) (.int v :: S) h := Rg rfl
set_option maxRecDepth 100000 in
theorem e148_354 {L : Lo} {h : Hp} {a2 : Int32} {a1 : Int32} {a0 : Nat} : Run 148 354 L [.int a2, .int a1, .ref a0] h = (Run 126 0 [some (.ref a0), some (.int a1), some (.int a2), none] [] h).bind fun o => aft 148 354 357 L [] o := Rc (c := 126) (As := [.ref a0, .int a1, .int a2]) (S' := []) (pc' := 357) rfl
set_option maxRecDepth 100000 in
theorem e148_357 {L : Lo} {S : List Value} {h : Hp} {x0 x1 x2 x3 x4 x5 : Option Value} {v : Int32} : Run 148 357 (x0 :: x1 :: x2 :: x3 :: x4 :: x5 :: some (.int v) :: L) S h = Run 148 359 (x0 :: x1 :: x2 :: x3 :: x4 :: x5 :: some (.int v) :: L) (.int v :: S) h := Rg rfl
set_option maxRecDepth 100000 in
theorem e148_359 {L : Lo} {S : List Value} {h : Hp} : Run 148 359 L S h = Run 148 360 L (.int 2 :: S) h := Rg rfl
set_option maxRecDepth 100000 in
theorem e148_360 {L : Lo} {S : List Value} {h : Hp} {x z : Int32} : Run 148 360 L (.int z :: .int x :: S) h = if x = z then Run 148 363 L S h else Run 148 367 L S h := RbrN (c := cnd .ne x z = true) (off := 7) rfl rfl cnd_ne
set_option maxRecDepth 100000 in
theorem e148_363 {L : Lo} {S : List Value} {h : Hp} : Run 148 363 L S h = Run 148 364 L (.int 1 :: S) h := Rg rfl
set_option maxRecDepth 100000 in
theorem e148_364 {L : Lo} {S : List Value} {h : Hp} : Run 148 364 L S h = Run 148 368 L S h := Rg rfl
set_option maxRecDepth 100000 in
theorem e148_367 {L : Lo} {S : List Value} {h : Hp} : Run 148 367 L S h = Run 148 368 L (.int 0 :: S) h := Rg rfl
set_option maxRecDepth 100000 in
theorem e148_368 {L : Lo} {S : List Value} {h : Hp} {x z : Int32} : Run 148 368 L (.int z :: .int x :: S) h = if x = z then Run 148 371 L S h else Run 148 402 L S h := RbrN (c := cnd .ne x z = true) (off := 34) rfl rfl cnd_ne
set_option maxRecDepth 100000 in
theorem e148_371 {L : Lo} {S : List Value} {h : Hp} {v : Nat} : Run 148 371 (some (.ref v) :: L) S h = Run 148 372 (some (.ref v) :: L) (.ref v :: S) h := Rg rfl
set_option maxRecDepth 100000 in
theorem e148_372 {L : Lo} {S : List Value} {h : Hp} {x0 : Option Value} {v : Int32} : Run 148 372 (x0 :: some (.int v) :: L) S h = Run 148 373 (x0 :: some (.int v) :: L) (.int v :: S) h := Rg rfl
set_option maxRecDepth 100000 in
theorem e148_373 {L : Lo} {S : List Value} {h : Hp} : Run 148 373 L S h = Run 148 375 L (.int 9 :: S) h := Rg rfl
set_option maxRecDepth 100000 in
theorem e148_375 {L : Lo} {S : List Value} {h : Hp} {x0 x1 x2 x3 x4 : Option Value} {v : Int32} : Run 148 375 (x0 :: x1 :: x2 :: x3 :: x4 :: some (.int v) :: L) S h = Run 148 377 (x0 :: x1 :: x2 :: x3 :: x4 :: some (.int v) :: L) (.int v :: S) h := Rg rfl
set_option maxRecDepth 100000 in
theorem e148_377 {L : Lo} {S : List Value} {h : Hp} {x z : Int32} : Run 148 377 L (.int z :: .int x :: S) h = Run 148 378 L (.int (x + z) :: S) h := Rg rfl
set_option maxRecDepth 100000 in
theorem e148_378 {L : Lo} {h : Hp} {a2 : Int32} {a1 : Int32} {a0 : Nat} : Run 148 378 L [.int a2, .int a1, .ref a0] h = (Run 126 0 [some (.ref a0), some (.int a1), some (.int a2), none] [] h).bind fun o => aft 148 378 381 L [] o := Rc (c := 126) (As := [.ref a0, .int a1, .int a2]) (S' := []) (pc' := 381) rfl
set_option maxRecDepth 100000 in
theorem e148_381 {L : Lo} {S : List Value} {h : Hp} {x : Int32} : Run 148 381 L (.int x :: S) h = if x ≤ 0 then Run 148 402 L S h else Run 148 384 L S h := Rbr (c := cnd .le x 0 = true) (off := 21) rfl rfl cnd_le
set_option maxRecDepth 100000 in
theorem e148_384 {L : Lo} {S : List Value} {h : Hp} {v : Nat} : Run 148 384 (some (.ref v) :: L) S h = Run 148 385 (some (.ref v) :: L) (.ref v :: S) h := Rg rfl
set_option maxRecDepth 100000 in
theorem e148_385 {L : Lo} {S : List Value} {h : Hp} {x0 : Option Value} {v : Int32} : Run 148 385 (x0 :: some (.int v) :: L) S h = Run 148 386 (x0 :: some (.int v) :: L) (.int v :: S) h := Rg rfl
set_option maxRecDepth 100000 in
theorem e148_386 {L : Lo} {S : List Value} {h : Hp} : Run 148 386 L S h = Run 148 388 L (.int 9 :: S) h := Rg rfl
set_option maxRecDepth 100000 in
theorem e148_388 {L : Lo} {S : List Value} {h : Hp} {x0 x1 x2 x3 x4 : Option Value} {v : Int32} : Run 148 388 (x0 :: x1 :: x2 :: x3 :: x4 :: some (.int v) :: L) S h = Run 148 390 (x0 :: x1 :: x2 :: x3 :: x4 :: some (.int v) :: L) (.int v :: S) h := Rg rfl
set_option maxRecDepth 100000 in
theorem e148_390 {L : Lo} {S : List Value} {h : Hp} {x z : Int32} : Run 148 390 L (.int z :: .int x :: S) h = Run 148 391 L (.int (x + z) :: S) h := Rg rfl
set_option maxRecDepth 100000 in
theorem e148_391 {L : Lo} {h : Hp} {a2 : Int32} {a1 : Int32} {a0 : Nat} : Run 148 391 L [.int a2, .int a1, .ref a0] h = (Run 126 0 [some (.ref a0), some (.int a1), some (.int a2), none] [] h).bind fun o => aft 148 391 394 L [] o := Rc (c := 126) (As := [.ref a0, .int a1, .int a2]) (S' := []) (pc' := 394) rfl
set_option maxRecDepth 100000 in
theorem e148_394 {L : Lo} {S : List Value} {h : Hp} : Run 148 394 L S h = Run 148 395 L (.int 3 :: S) h := Rg rfl
set_option maxRecDepth 100000 in
theorem e148_395 {L : Lo} {S : List Value} {h : Hp} {x z : Int32} : Run 148 395 L (.int z :: .int x :: S) h = if z ≤ x then Run 148 402 L S h else Run 148 398 L S h := Rbr (c := cnd .ge x z = true) (off := 7) rfl rfl cnd_ge
set_option maxRecDepth 100000 in
theorem e148_398 {L : Lo} {S : List Value} {h : Hp} : Run 148 398 L S h = Run 148 399 L (.int 1 :: S) h := Rg rfl
set_option maxRecDepth 100000 in
theorem e148_399 {L : Lo} {S : List Value} {h : Hp} : Run 148 399 L S h = Run 148 403 L S h := Rg rfl
set_option maxRecDepth 100000 in
theorem e148_402 {L : Lo} {S : List Value} {h : Hp} : Run 148 402 L S h = Run 148 403 L (.int 0 :: S) h := Rg rfl
set_option maxRecDepth 100000 in
theorem e148_403 {L : Lo} {S : List Value} {h : Hp} {x0 x1 x2 x3 x4 x5 x6 x7 x8 x9 x10 x11 x12 x13 x14 : Option Value} {y : Option Value} {v : Int32} : Run 148 403 (x0 :: x1 :: x2 :: x3 :: x4 :: x5 :: x6 :: x7 :: x8 :: x9 :: x10 :: x11 :: x12 :: x13 :: x14 :: y :: L) (.int v :: S) h = Run 148 405 (x0 :: x1 :: x2 :: x3 :: x4 :: x5 :: x6 :: x7 :: x8 :: x9 :: x10 :: x11 :: x12 :: x13 :: ck x14 :: some (.int v) :: L) S h := Rg rfl
set_option maxRecDepth 100000 in
theorem e148_405 {L : Lo} {S : List Value} {h : Hp} {x0 x1 x2 x3 x4 x5 x6 x7 x8 x9 x10 : Option Value} {v : Int32} : Run 148 405 (x0 :: x1 :: x2 :: x3 :: x4 :: x5 :: x6 :: x7 :: x8 :: x9 :: x10 :: some (.int v) :: L) S h = Run 148 407 (x0 :: x1 :: x2 :: x3 :: x4 :: x5 :: x6 :: x7 :: x8 :: x9 :: x10 :: some (.int v) :: L) (.int v :: S) h := Rg rfl
set_option maxRecDepth 100000 in
theorem e148_407 {L : Lo} {S : List Value} {h : Hp} {v : Nat} : Run 148 407 (some (.ref v) :: L) S h = Run 148 408 (some (.ref v) :: L) (.ref v :: S) h := Rg rfl
set_option maxRecDepth 100000 in
theorem e148_408 {L : Lo} {S : List Value} {h : Hp} {x0 x1 : Option Value} {v : Int32} : Run 148 408 (x0 :: x1 :: some (.int v) :: L) S h = Run 148 409 (x0 :: x1 :: some (.int v) :: L) (.int v :: S) h := Rg rfl
set_option maxRecDepth 100000 in
theorem e148_409 {L : Lo} {S : List Value} {h : Hp} : Run 148 409 L S h = Run 148 410 L (.int 5 :: S) h := Rg rfl
set_option maxRecDepth 100000 in
theorem e148_410 {L : Lo} {h : Hp} {a3 : Int32} {a2 : Int32} {a1 : Nat} {a0 : Int32} : Run 148 410 L [.int a3, .int a2, .ref a1, .int a0] h = (Run 126 0 [some (.ref a1), some (.int a2), some (.int a3), none] [] h).bind fun o => aft 148 410 413 L [.int a0] o := Rc (c := 126) (As := [.ref a1, .int a2, .int a3]) (S' := [.int a0]) (pc' := 413) rfl
set_option maxRecDepth 100000 in
theorem e148_413 {L : Lo} {S : List Value} {h : Hp} {x z : Int32} : Run 148 413 L (.int z :: .int x :: S) h = Run 148 414 L (.int (x - z) :: S) h := Rg rfl
set_option maxRecDepth 100000 in
theorem e148_414 {L : Lo} {S : List Value} {h : Hp} {v : Nat} : Run 148 414 (some (.ref v) :: L) S h = Run 148 415 (some (.ref v) :: L) (.ref v :: S) h := Rg rfl
set_option maxRecDepth 100000 in
theorem e148_415 {L : Lo} {S : List Value} {h : Hp} {x0 x1 : Option Value} {v : Int32} : Run 148 415 (x0 :: x1 :: some (.int v) :: L) S h = Run 148 416 (x0 :: x1 :: some (.int v) :: L) (.int v :: S) h := Rg rfl
set_option maxRecDepth 100000 in
theorem e148_416 {L : Lo} {S : List Value} {h : Hp} : Run 148 416 L S h = Run 148 418 L (.int 6 :: S) h := Rg rfl
set_option maxRecDepth 100000 in
theorem e148_418 {L : Lo} {h : Hp} {a3 : Int32} {a2 : Int32} {a1 : Nat} {a0 : Int32} : Run 148 418 L [.int a3, .int a2, .ref a1, .int a0] h = (Run 126 0 [some (.ref a1), some (.int a2), some (.int a3), none] [] h).bind fun o => aft 148 418 421 L [.int a0] o := Rc (c := 126) (As := [.ref a1, .int a2, .int a3]) (S' := [.int a0]) (pc' := 421) rfl
set_option maxRecDepth 100000 in
theorem e148_421 {L : Lo} {S : List Value} {h : Hp} {x z : Int32} : Run 148 421 L (.int z :: .int x :: S) h = Run 148 422 L (.int (x - z) :: S) h := Rg rfl
set_option maxRecDepth 100000 in
theorem e148_422 {L : Lo} {S : List Value} {h : Hp} {x0 x1 x2 x3 x4 x5 x6 x7 x8 x9 x10 x11 x12 x13 x14 x15 : Option Value} {y : Option Value} {v : Int32} : Run 148 422 (x0 :: x1 :: x2 :: x3 :: x4 :: x5 :: x6 :: x7 :: x8 :: x9 :: x10 :: x11 :: x12 :: x13 :: x14 :: x15 :: y :: L) (.int v :: S) h = Run 148 424 (x0 :: x1 :: x2 :: x3 :: x4 :: x5 :: x6 :: x7 :: x8 :: x9 :: x10 :: x11 :: x12 :: x13 :: x14 :: ck x15 :: some (.int v) :: L) S h := Rg rfl
set_option maxRecDepth 100000 in
theorem e148_424 {L : Lo} {S : List Value} {h : Hp} {x0 x1 x2 x3 x4 x5 x6 x7 x8 x9 x10 x11 x12 x13 x14 : Option Value} {v : Int32} : Run 148 424 (x0 :: x1 :: x2 :: x3 :: x4 :: x5 :: x6 :: x7 :: x8 :: x9 :: x10 :: x11 :: x12 :: x13 :: x14 :: some (.int v) :: L) S h = Run 148 426 (x0 :: x1 :: x2 :: x3 :: x4 :: x5 :: x6 :: x7 :: x8 :: x9 :: x10 :: x11 :: x12 :: x13 :: x14 :: some (.int v) :: L) (.int v :: S) h := Rg rfl
set_option maxRecDepth 100000 in
theorem e148_426 {L : Lo} {S : List Value} {h : Hp} {x : Int32} : Run 148 426 L (.int x :: S) h = if x = 0 then Run 148 458 L S h else Run 148 429 L S h := Rbr (c := cnd .eq x 0 = true) (off := 32) rfl rfl cnd_eq
set_option maxRecDepth 100000 in
theorem e148_429 {L : Lo} {S : List Value} {h : Hp} {x0 x1 x2 x3 x4 x5 x6 x7 x8 x9 x10 x11 x12 x13 x14 x15 : Option Value} {v : Int32} : Run 148 429 (x0 :: x1 :: x2 :: x3 :: x4 :: x5 :: x6 :: x7 :: x8 :: x9 :: x10 :: x11 :: x12 :: x13 :: x14 :: x15 :: some (.int v) :: L) S h = Run 148 431 (x0 :: x1 :: x2 :: x3 :: x4 :: x5 :: x6 :: x7 :: x8 :: x9 :: x10 :: x11 :: x12 :: x13 :: x14 :: x15 :: some (.int v) :: L) (.int v :: S) h := Rg rfl
set_option maxRecDepth 100000 in
theorem e148_431 {L : Lo} {S : List Value} {h : Hp} {x : Int32} : Run 148 431 L (.int x :: S) h = if x < 0 then Run 148 458 L S h else Run 148 434 L S h := Rbr (c := cnd .lt x 0 = true) (off := 27) rfl rfl cnd_lt
set_option maxRecDepth 100000 in
theorem e148_434 {L : Lo} {S : List Value} {h : Hp} {x0 x1 x2 x3 x4 x5 : Option Value} {v : Int32} : Run 148 434 (x0 :: x1 :: x2 :: x3 :: x4 :: x5 :: some (.int v) :: L) S h = Run 148 436 (x0 :: x1 :: x2 :: x3 :: x4 :: x5 :: some (.int v) :: L) (.int v :: S) h := Rg rfl
set_option maxRecDepth 100000 in
theorem e148_436 {L : Lo} {S : List Value} {h : Hp} {x : Int32} : Run 148 436 L (.int x :: S) h = if x = 0 then Run 148 444 L S h else Run 148 439 L S h := Rbr (c := cnd .eq x 0 = true) (off := 8) rfl rfl cnd_eq
set_option maxRecDepth 100000 in
theorem e148_439 {L : Lo} {S : List Value} {h : Hp} {x0 x1 x2 x3 x4 x5 x6 x7 x8 x9 x10 x11 x12 x13 x14 x15 : Option Value} {v : Int32} : Run 148 439 (x0 :: x1 :: x2 :: x3 :: x4 :: x5 :: x6 :: x7 :: x8 :: x9 :: x10 :: x11 :: x12 :: x13 :: x14 :: x15 :: some (.int v) :: L) S h = Run 148 441 (x0 :: x1 :: x2 :: x3 :: x4 :: x5 :: x6 :: x7 :: x8 :: x9 :: x10 :: x11 :: x12 :: x13 :: x14 :: x15 :: some (.int v) :: L) (.int v :: S) h := Rg rfl
set_option maxRecDepth 100000 in
theorem e148_441 {L : Lo} {S : List Value} {h : Hp} {x : Int32} : Run 148 441 L (.int x :: S) h = if x = 0 then Run 148 444 L S h else Run 148 458 L S h := RbrN (c := cnd .ne x 0 = true) (off := 17) rfl rfl cnd_ne
set_option maxRecDepth 100000 in
theorem e148_444 {L : Lo} {S : List Value} {h : Hp} {x0 x1 x2 x3 x4 x5 x6 x7 x8 x9 x10 x11 x12 x13 x14 x15 : Option Value} {v : Int32} : Run 148 444 (x0 :: x1 :: x2 :: x3 :: x4 :: x5 :: x6 :: x7 :: x8 :: x9 :: x10 :: x11 :: x12 :: x13 :: x14 :: x15 :: some (.int v) :: L) S h = Run 148 446 (x0 :: x1 :: x2 :: x3 :: x4 :: x5 :: x6 :: x7 :: x8 :: x9 :: x10 :: x11 :: x12 :: x13 :: x14 :: x15 :: some (.int v) :: L) (.int v :: S) h := Rg rfl
set_option maxRecDepth 100000 in
theorem e148_446 {L : Lo} {S : List Value} {h : Hp} {x0 x1 x2 x3 x4 x5 x6 : Option Value} {v : Int32} : Run 148 446 (x0 :: x1 :: x2 :: x3 :: x4 :: x5 :: x6 :: some (.int v) :: L) S h = Run 148 448 (x0 :: x1 :: x2 :: x3 :: x4 :: x5 :: x6 :: some (.int v) :: L) (.int v :: S) h := Rg rfl
set_option maxRecDepth 100000 in
theorem e148_448 {L : Lo} {S : List Value} {h : Hp} : Run 148 448 L S h = Run 148 450 L (.int 12 :: S) h := Rg rfl
set_option maxRecDepth 100000 in
theorem e148_450 {L : Lo} {S : List Value} {h : Hp} {x z : Int32} (hz : ¬ z = 0) : Run 148 450 L (.int z :: .int x :: S) h = Run 148 451 L (.int (x / z) :: S) h := Rg (if_neg hz)
set_option maxRecDepth 100000 in
theorem e148_451 {L : Lo} {S : List Value} {h : Hp} {x z : Int32} : Run 148 451 L (.int z :: .int x :: S) h = if z < x then Run 148 458 L S h else Run 148 454 L S h := Rbr (c := cnd .gt x z = true) (off := 7) rfl rfl cnd_gt
set_option maxRecDepth 100000 in
theorem e148_454 {L : Lo} {S : List Value} {h : Hp} : Run 148 454 L S h = Run 148 455 L (.int 1 :: S) h := Rg rfl
set_option maxRecDepth 100000 in
theorem e148_455 {L : Lo} {S : List Value} {h : Hp} : Run 148 455 L S h = Run 148 459 L S h := Rg rfl
set_option maxRecDepth 100000 in
theorem e148_458 {L : Lo} {S : List Value} {h : Hp} : Run 148 458 L S h = Run 148 459 L (.int 0 :: S) h := Rg rfl
set_option maxRecDepth 100000 in
theorem e148_459 {L : Lo} {S : List Value} {h : Hp} {x0 x1 x2 x3 x4 x5 x6 x7 x8 x9 x10 x11 x12 x13 x14 : Option Value} {y : Option Value} {v : Int32} : Run 148 459 (x0 :: x1 :: x2 :: x3 :: x4 :: x5 :: x6 :: x7 :: x8 :: x9 :: x10 :: x11 :: x12 :: x13 :: x14 :: y :: L) (.int v :: S) h = Run 148 461 (x0 :: x1 :: x2 :: x3 :: x4 :: x5 :: x6 :: x7 :: x8 :: x9 :: x10 :: x11 :: x12 :: x13 :: ck x14 :: some (.int v) :: L) S h := Rg rfl
set_option maxRecDepth 100000 in
theorem e148_461 {L : Lo} {S : List Value} {h : Hp} {x0 x1 x2 x3 x4 x5 x6 x7 x8 x9 x10 x11 x12 x13 x14 : Option Value} {v : Int32} : Run 148 461 (x0 :: x1 :: x2 :: x3 :: x4 :: x5 :: x6 :: x7 :: x8 :: x9 :: x10 :: x11 :: x12 :: x13 :: x14 :: some (.int v) :: L) S h = Run 148 463 (x0 :: x1 :: x2 :: x3 :: x4 :: x5 :: x6 :: x7 :: x8 :: x9 :: x10 :: x11 :: x12 :: x13 :: x14 :: some (.int v) :: L) (.int v :: S) h := Rg rfl
set_option maxRecDepth 100000 in
theorem e148_463 {L : Lo} {S : List Value} {h : Hp} {x : Int32} : Run 148 463 L (.int x :: S) h = if x = 0 then Run 148 511 L S h else Run 148 466 L S h := Rbr (c := cnd .eq x 0 = true) (off := 48) rfl rfl cnd_eq
set_option maxRecDepth 100000 in
theorem e148_466 {L : Lo} {S : List Value} {h : Hp} {v : Nat} : Run 148 466 (some (.ref v) :: L) S h = Run 148 467 (some (.ref v) :: L) (.ref v :: S) h := Rg rfl
set_option maxRecDepth 100000 in
theorem e148_467 {L : Lo} {S : List Value} {h : Hp} {x0 x1 : Option Value} {v : Int32} : Run 148 467 (x0 :: x1 :: some (.int v) :: L) S h = Run 148 468 (x0 :: x1 :: some (.int v) :: L) (.int v :: S) h := Rg rfl
set_option maxRecDepth 100000 in
theorem e148_468 {L : Lo} {S : List Value} {h : Hp} : Run 148 468 L S h = Run 148 469 L (.int 3 :: S) h := Rg rfl
set_option maxRecDepth 100000 in
theorem e148_469 {L : Lo} {h : Hp} {a2 : Int32} {a1 : Int32} {a0 : Nat} : Run 148 469 L [.int a2, .int a1, .ref a0] h = (Run 126 0 [some (.ref a0), some (.int a1), some (.int a2), none] [] h).bind fun o => aft 148 469 472 L [] o := Rc (c := 126) (As := [.ref a0, .int a1, .int a2]) (S' := []) (pc' := 472) rfl
set_option maxRecDepth 100000 in
theorem e148_472 {L : Lo} {S : List Value} {h : Hp} {x : Int32} : Run 148 472 L (.int x :: S) h = if 0 < x then Run 148 507 L S h else Run 148 475 L S h := Rbr (c := cnd .gt x 0 = true) (off := 35) rfl rfl cnd_gt
set_option maxRecDepth 100000 in
theorem e148_475 {L : Lo} {S : List Value} {h : Hp} {v : Nat} : Run 148 475 (some (.ref v) :: L) S h = Run 148 476 (some (.ref v) :: L) (.ref v :: S) h := Rg rfl
set_option maxRecDepth 100000 in
theorem e148_476 {L : Lo} {S : List Value} {h : Hp} {x0 x1 : Option Value} {v : Int32} : Run 148 476 (x0 :: x1 :: some (.int v) :: L) S h = Run 148 477 (x0 :: x1 :: some (.int v) :: L) (.int v :: S) h := Rg rfl
set_option maxRecDepth 100000 in
theorem e148_477 {L : Lo} {S : List Value} {h : Hp} : Run 148 477 L S h = Run 148 479 L (.int 11 :: S) h := Rg rfl
set_option maxRecDepth 100000 in
theorem e148_479 {L : Lo} {h : Hp} {a2 : Int32} {a1 : Int32} {a0 : Nat} : Run 148 479 L [.int a2, .int a1, .ref a0] h = (Run 126 0 [some (.ref a0), some (.int a1), some (.int a2), none] [] h).bind fun o => aft 148 479 482 L [] o := Rc (c := 126) (As := [.ref a0, .int a1, .int a2]) (S' := []) (pc' := 482) rfl
set_option maxRecDepth 100000 in
theorem e148_482 {L : Lo} {S : List Value} {h : Hp} : Run 148 482 L S h = Run 148 483 L (.int (-1) :: S) h := Rg rfl
set_option maxRecDepth 100000 in
theorem e148_483 {L : Lo} {S : List Value} {h : Hp} {x z : Int32} : Run 148 483 L (.int z :: .int x :: S) h = if x = z then Run 148 486 L S h else Run 148 511 L S h := RbrN (c := cnd .ne x z = true) (off := 28) rfl rfl cnd_ne
set_option maxRecDepth 100000 in
theorem e148_486 {L : Lo} {S : List Value} {h : Hp} {v : Nat} : Run 148 486 (some (.ref v) :: L) S h = Run 148 487 (some (.ref v) :: L) (.ref v :: S) h := Rg rfl
set_option maxRecDepth 100000 in
theorem e148_487 {L : Lo} {S : List Value} {h : Hp} {x0 x1 : Option Value} {v : Int32} : Run 148 487 (x0 :: x1 :: some (.int v) :: L) S h = Run 148 488 (x0 :: x1 :: some (.int v) :: L) (.int v :: S) h := Rg rfl
set_option maxRecDepth 100000 in
theorem e148_488 {L : Lo} {S : List Value} {h : Hp} : Run 148 488 L S h = Run 148 489 L (.int 1 :: S) h := Rg rfl
set_option maxRecDepth 100000 in
theorem e148_489 {L : Lo} {h : Hp} {a2 : Int32} {a1 : Int32} {a0 : Nat} : Run 148 489 L [.int a2, .int a1, .ref a0] h = (Run 126 0 [some (.ref a0), some (.int a1), some (.int a2), none] [] h).bind fun o => aft 148 489 492 L [] o := Rc (c := 126) (As := [.ref a0, .int a1, .int a2]) (S' := []) (pc' := 492) rfl
set_option maxRecDepth 100000 in
theorem e148_492 {L : Lo} {S : List Value} {h : Hp} : Run 148 492 L S h = Run 148 493 L (.int (-1) :: S) h := Rg rfl
set_option maxRecDepth 100000 in
theorem e148_493 {L : Lo} {S : List Value} {h : Hp} {x z : Int32} : Run 148 493 L (.int z :: .int x :: S) h = if x = z then Run 148 496 L S h else Run 148 511 L S h := RbrN (c := cnd .ne x z = true) (off := 18) rfl rfl cnd_ne
set_option maxRecDepth 100000 in
theorem e148_496 {L : Lo} {S : List Value} {h : Hp} {v : Nat} : Run 148 496 (some (.ref v) :: L) S h = Run 148 497 (some (.ref v) :: L) (.ref v :: S) h := Rg rfl
set_option maxRecDepth 100000 in
theorem e148_497 {L : Lo} {S : List Value} {h : Hp} {x0 : Option Value} {v : Int32} : Run 148 497 (x0 :: some (.int v) :: L) S h = Run 148 498 (x0 :: some (.int v) :: L) (.int v :: S) h := Rg rfl
set_option maxRecDepth 100000 in
theorem e148_498 {L : Lo} {S : List Value} {h : Hp} {x0 x1 x2 x3 : Option Value} {v : Int32} : Run 148 498 (x0 :: x1 :: x2 :: x3 :: some (.int v) :: L) S h = Run 148 500 (x0 :: x1 :: x2 :: x3 :: some (.int v) :: L) (.int v :: S) h := Rg rfl
set_option maxRecDepth 100000 in
theorem e148_500 {L : Lo} {S : List Value} {h : Hp} {x0 x1 : Option Value} {v : Int32} : Run 148 500 (x0 :: x1 :: some (.int v) :: L) S h = Run 148 501 (x0 :: x1 :: some (.int v) :: L) (.int v :: S) h := Rg rfl
set_option maxRecDepth 100000 in
theorem e148_501 {L : Lo} {h : Hp} {a3 : Int32} {a2 : Int32} {a1 : Int32} {a0 : Nat} : Run 148 501 L [.int a3, .int a2, .int a1, .ref a0] h = (Run 132 0 [some (.ref a0), some (.int a1), some (.int a2), some (.int a3), none] [] h).bind fun o => aft 148 501 504 L [] o := Rc (c := 132) (As := [.ref a0, .int a1, .int a2, .int a3]) (S' := []) (pc' := 504) rfl
set_option maxRecDepth 100000 in
theorem e148_504 {L : Lo} {S : List Value} {h : Hp} {x : Int32} : Run 148 504 L (.int x :: S) h = if x = 0 then Run 148 507 L S h else Run 148 511 L S h := RbrN (c := cnd .ne x 0 = true) (off := 7) rfl rfl cnd_ne
set_option maxRecDepth 100000 in
theorem e148_507 {L : Lo} {S : List Value} {h : Hp} : Run 148 507 L S h = Run 148 508 L (.int 1 :: S) h := Rg rfl
set_option maxRecDepth 100000 in
theorem e148_508 {L : Lo} {S : List Value} {h : Hp} : Run 148 508 L S h = Run 148 512 L S h := Rg rfl
set_option maxRecDepth 100000 in
theorem e148_511 {L : Lo} {S : List Value} {h : Hp} : Run 148 511 L S h = Run 148 512 L (.int 0 :: S) h := Rg rfl
set_option maxRecDepth 100000 in
theorem e148_512 {L : Lo} {h : Hp} {x : Int32} (hx : narrow .boolean (.int x) = .int x) : Run 148 512 L [.int x] h = some (.inl (some (.int x)), h) := Rd (if_pos hx)
set_option maxRecDepth 100000 in
theorem e149_0 {L : Lo} {S : List Value} {h : Hp} {v : Nat} : Run 149 0 (some (.ref v) :: L) S h = Run 149 1 (some (.ref v) :: L) (.ref v :: S) h := Rg rfl
set_option maxRecDepth 100000 in
theorem e149_1 {L : Lo} {S : List Value} {h : Hp} {x0 : Option Value} {v : Int32} : Run 149 1 (x0 :: some (.int v) :: L) S h = Run 149 2 (x0 :: some (.int v) :: L) (.int v :: S) h := Rg rfl
set_option maxRecDepth 100000 in
theorem e149_2 {L : Lo} {S : List Value} {h : Hp} : Run 149 2 L S h = Run 149 4 L (.int 11 :: S) h := Rg rfl
set_option maxRecDepth 100000 in
theorem e149_4 {L : Lo} {h : Hp} {a2 : Int32} {a1 : Int32} {a0 : Nat} : Run 149 4 L [.int a2, .int a1, .ref a0] h = (Run 126 0 [some (.ref a0), some (.int a1), some (.int a2), none] [] h).bind fun o => aft 149 4 7 L [] o := Rc (c := 126) (As := [.ref a0, .int a1, .int a2]) (S' := []) (pc' := 7) rfl
set_option maxRecDepth 100000 in
theorem e149_7 {L : Lo} {S : List Value} {h : Hp} {x0 x1 x2 x3 : Option Value} {y : Option Value} {v : Int32} : Run 149 7 (x0 :: x1 :: x2 :: x3 :: y :: L) (.int v :: S) h = Run 149 9 (x0 :: x1 :: x2 :: ck x3 :: some (.int v) :: L) S h := Rg rfl
set_option maxRecDepth 100000 in
theorem e149_9 {L : Lo} {S : List Value} {h : Hp} {x0 x1 x2 x3 : Option Value} {v : Int32} : Run 149 9 (x0 :: x1 :: x2 :: x3 :: some (.int v) :: L) S h = Run 149 11 (x0 :: x1 :: x2 :: x3 :: some (.int v) :: L) (.int v :: S) h := Rg rfl
set_option maxRecDepth 100000 in
theorem e149_11 {L : Lo} {S : List Value} {h : Hp} : Run 149 11 L S h = Run 149 12 L (.int (-1) :: S) h := Rg rfl
set_option maxRecDepth 100000 in
theorem e149_12 {L : Lo} {S : List Value} {h : Hp} {x z : Int32} : Run 149 12 L (.int z :: .int x :: S) h = if x = z then Run 149 15 L S h else Run 149 143 L S h := RbrN (c := cnd .ne x z = true) (off := 131) rfl rfl cnd_ne
set_option maxRecDepth 100000 in
theorem e149_15 {L : Lo} {S : List Value} {h : Hp} {x0 : Option Value} {v : Int32} : Run 149 15 (x0 :: some (.int v) :: L) S h = Run 149 16 (x0 :: some (.int v) :: L) (.int v :: S) h := Rg rfl
set_option maxRecDepth 100000 in
theorem e149_16 {L : Lo} {S : List Value} {h : Hp} {x0 x1 : Option Value} {v : Int32} : Run 149 16 (x0 :: x1 :: some (.int v) :: L) S h = Run 149 17 (x0 :: x1 :: some (.int v) :: L) (.int v :: S) h := Rg rfl
set_option maxRecDepth 100000 in
theorem e149_17 {L : Lo} {S : List Value} {h : Hp} {x z : Int32} : Run 149 17 L (.int z :: .int x :: S) h = if x = z then Run 149 20 L S h else Run 149 26 L S h := RbrN (c := cnd .ne x z = true) (off := 9) rfl rfl cnd_ne
set_option maxRecDepth 100000 in
theorem e149_20 {L : Lo} {S : List Value} {h : Hp} : Run 149 20 L S h = Run 149 23 L (.int (-902) :: S) h := Rg rfl
set_option maxRecDepth 100000 in
theorem e149_23 {L : Lo} {S : List Value} {h : Hp} : Run 149 23 L S h = Run 149 32 L S h := Rg rfl
set_option maxRecDepth 100000 in
theorem e149_26 {L : Lo} {S : List Value} {h : Hp} {v : Nat} : Run 149 26 (some (.ref v) :: L) S h = Run 149 27 (some (.ref v) :: L) (.ref v :: S) h := Rg rfl
set_option maxRecDepth 100000 in
theorem e149_27 {L : Lo} {S : List Value} {h : Hp} {x0 : Option Value} {v : Int32} : Run 149 27 (x0 :: some (.int v) :: L) S h = Run 149 28 (x0 :: some (.int v) :: L) (.int v :: S) h := Rg rfl
set_option maxRecDepth 100000 in
theorem e149_28 {L : Lo} {S : List Value} {h : Hp} {x0 x1 : Option Value} {v : Int32} : Run 149 28 (x0 :: x1 :: some (.int v) :: L) S h = Run 149 29 (x0 :: x1 :: some (.int v) :: L) (.int v :: S) h := Rg rfl
set_option maxRecDepth 100000 in
theorem e149_29 {L : Lo} {h : Hp} {a2 : Int32} {a1 : Int32} {a0 : Nat} : Run 149 29 L [.int a2, .int a1, .ref a0] h = (Run 134 0 [some (.ref a0), some (.int a1), some (.int a2), none] [] h).bind fun o => aft 149 29 32 L [] o := Rc (c := 134) (As := [.ref a0, .int a1, .int a2]) (S' := []) (pc' := 32) rfl
set_option maxRecDepth 100000 in
theorem e149_32 {L : Lo} {S : List Value} {h : Hp} {x0 x1 x2 x3 x4 : Option Value} {y : Option Value} {v : Int32} : Run 149 32 (x0 :: x1 :: x2 :: x3 :: x4 :: y :: L) (.int v :: S) h = Run 149 34 (x0 :: x1 :: x2 :: x3 :: ck x4 :: some (.int v) :: L) S h := Rg rfl
set_option maxRecDepth 100000 in
theorem e149_34 {L : Lo} {S : List Value} {h : Hp} {x0 x1 x2 x3 x4 : Option Value} {v : Int32} : Run 149 34 (x0 :: x1 :: x2 :: x3 :: x4 :: some (.int v) :: L) S h = Run 149 36 (x0 :: x1 :: x2 :: x3 :: x4 :: some (.int v) :: L) (.int v :: S) h := Rg rfl
set_option maxRecDepth 100000 in
theorem e149_36 {L : Lo} {S : List Value} {h : Hp} : Run 149 36 L S h = Run 149 39 L (.int (-902) :: S) h := Rg rfl
set_option maxRecDepth 100000 in
theorem e149_39 {L : Lo} {S : List Value} {h : Hp} {x z : Int32} : Run 149 39 L (.int z :: .int x :: S) h = if x = z then Run 149 42 L S h else Run 149 70 L S h := RbrN (c := cnd .ne x z = true) (off := 31) rfl rfl cnd_ne
set_option maxRecDepth 100000 in
theorem e149_42 {L : Lo} {S : List Value} {h : Hp} {v : Nat} : Run 149 42 (some (.ref v) :: L) S h = Run 149 43 (some (.ref v) :: L) (.ref v :: S) h := Rg rfl
set_option maxRecDepth 100000 in
theorem e149_43 {L : Lo} {S : List Value} {h : Hp} {x0 : Option Value} {v : Int32} : Run 149 43 (x0 :: some (.int v) :: L) S h = Run 149 44 (x0 :: some (.int v) :: L) (.int v :: S) h := Rg rfl
set_option maxRecDepth 100000 in
theorem e149_44 {L : Lo} {h : Hp} {a1 : Int32} {a0 : Nat} : Run 149 44 L [.int a1, .ref a0] h = (Run 135 0 [some (.ref a0), some (.int a1), none] [] h).bind fun o => aft 149 44 47 L [] o := Rc (c := 135) (As := [.ref a0, .int a1]) (S' := []) (pc' := 47) rfl
set_option maxRecDepth 100000 in
theorem e149_47 {L : Lo} {S : List Value} {h : Hp} : Run 149 47 L S h = Run 149 50 L (.int (-902) :: S) h := Rg rfl
set_option maxRecDepth 100000 in
theorem e149_50 {L : Lo} {S : List Value} {h : Hp} {x z : Int32} : Run 149 50 L (.int z :: .int x :: S) h = if x = z then Run 149 53 L S h else Run 149 68 L S h := RbrN (c := cnd .ne x z = true) (off := 18) rfl rfl cnd_ne
set_option maxRecDepth 100000 in
theorem e149_53 {L : Lo} {S : List Value} {h : Hp} {v : Nat} : Run 149 53 (some (.ref v) :: L) S h = Run 149 54 (some (.ref v) :: L) (.ref v :: S) h := Rg rfl
set_option maxRecDepth 100000 in
theorem e149_54 {L : Lo} {S : List Value} {h : Hp} {x0 : Option Value} {v : Int32} : Run 149 54 (x0 :: some (.int v) :: L) S h = Run 149 55 (x0 :: some (.int v) :: L) (.int v :: S) h := Rg rfl
set_option maxRecDepth 100000 in
theorem e149_55 {L : Lo} {h : Hp} {a1 : Int32} {a0 : Nat} : Run 149 55 L [.int a1, .ref a0] h = (Run 136 0 [some (.ref a0), some (.int a1), none] [] h).bind fun o => aft 149 55 58 L [] o := Rc (c := 136) (As := [.ref a0, .int a1]) (S' := []) (pc' := 58) rfl
set_option maxRecDepth 100000 in
theorem e149_58 {L : Lo} {S : List Value} {h : Hp} : Run 149 58 L S h = Run 149 61 L (.int (-902) :: S) h := Rg rfl
set_option maxRecDepth 100000 in
theorem e149_61 {L : Lo} {S : List Value} {h : Hp} {x z : Int32} : Run 149 61 L (.int z :: .int x :: S) h = if x = z then Run 149 64 L S h else Run 149 68 L S h := RbrN (c := cnd .ne x z = true) (off := 7) rfl rfl cnd_ne
set_option maxRecDepth 100000 in
theorem e149_64 {L : Lo} {S : List Value} {h : Hp} : Run 149 64 L S h = Run 149 65 L (.int 1 :: S) h := Rg rfl
set_option maxRecDepth 100000 in
theorem e149_65 {L : Lo} {S : List Value} {h : Hp} : Run 149 65 L S h = Run 149 69 L S h := Rg rfl
set_option maxRecDepth 100000 in
theorem e149_68 {L : Lo} {S : List Value} {h : Hp} : Run 149 68 L S h = Run 149 69 L (.int 0 :: S) h := Rg rfl
set_option maxRecDepth 100000 in
theorem e149_69 {L : Lo} {h : Hp} {x : Int32} (hx : narrow .boolean (.int x) = .int x) : Run 149 69 L [.int x] h = some (.inl (some (.int x)), h) := Rd (if_pos hx)
set_option maxRecDepth 100000 in
theorem e149_70 {L : Lo} {S : List Value} {h : Hp} {x0 x1 x2 x3 x4 : Option Value} {v : Int32} : Run 149 70 (x0 :: x1 :: x2 :: x3 :: x4 :: some (.int v) :: L) S h = Run 149 72 (x0 :: x1 :: x2 :: x3 :: x4 :: some (.int v) :: L) (.int v :: S) h := Rg rfl
set_option maxRecDepth 100000 in
theorem e149_72 {L : Lo} {S : List Value} {h : Hp} : Run 149 72 L S h = Run 149 73 L (.int 1 :: S) h := Rg rfl
set_option maxRecDepth 100000 in
theorem e149_73 {L : Lo} {S : List Value} {h : Hp} {x z : Int32} : Run 149 73 L (.int z :: .int x :: S) h = if x ≤ z then Run 149 141 L S h else Run 149 76 L S h := Rbr (c := cnd .le x z = true) (off := 68) rfl rfl cnd_le
set_option maxRecDepth 100000 in
theorem e149_76 {L : Lo} {S : List Value} {h : Hp} {x0 x1 x2 x3 x4 : Option Value} {v : Int32} : Run 149 76 (x0 :: x1 :: x2 :: x3 :: x4 :: some (.int v) :: L) S h = Run 149 78 (x0 :: x1 :: x2 :: x3 :: x4 :: some (.int v) :: L) (.int v :: S) h := Rg rfl
set_option maxRecDepth 100000 in
theorem e149_78 {L : Lo} {S : List Value} {h : Hp} : Run 149 78 L S h = Run 149 79 L (.int 2 :: S) h := Rg rfl
set_option maxRecDepth 100000 in
theorem e149_79 {L : Lo} {S : List Value} {h : Hp} {x z : Int32} (hz : ¬ z = 0) : Run 149 79 L (.int z :: .int x :: S) h = Run 149 80 L (.int (x - x / z * z) :: S) h := Rg (if_neg hz)
set_option maxRecDepth 100000 in
theorem e149_80 {L : Lo} {S : List Value} {h : Hp} {x : Int32} : Run 149 80 L (.int x :: S) h = if x = 0 then Run 149 83 L S h else Run 149 141 L S h := RbrN (c := cnd .ne x 0 = true) (off := 61) rfl rfl cnd_ne
set_option maxRecDepth 100000 in
theorem e149_83 {L : Lo} {S : List Value} {h : Hp} {v : Nat} : Run 149 83 (some (.ref v) :: L) S h = Run 149 84 (some (.ref v) :: L) (.ref v :: S) h := Rg rfl
set_option maxRecDepth 100000 in
theorem e149_84 {L : Lo} {S : List Value} {h : Hp} {x0 : Option Value} {v : Int32} : Run 149 84 (x0 :: some (.int v) :: L) S h = Run 149 85 (x0 :: some (.int v) :: L) (.int v :: S) h := Rg rfl
set_option maxRecDepth 100000 in
theorem e149_85 {L : Lo} {S : List Value} {h : Hp} : Run 149 85 L S h = Run 149 87 L (.int 11 :: S) h := Rg rfl
set_option maxRecDepth 100000 in
theorem e149_87 {L : Lo} {h : Hp} {a2 : Int32} {a1 : Int32} {a0 : Nat} : Run 149 87 L [.int a2, .int a1, .ref a0] h = (Run 126 0 [some (.ref a0), some (.int a1), some (.int a2), none] [] h).bind fun o => aft 149 87 90 L [] o := Rc (c := 126) (As := [.ref a0, .int a1, .int a2]) (S' := []) (pc' := 90) rfl
set_option maxRecDepth 100000 in
theorem e149_90 {L : Lo} {S : List Value} {h : Hp} {x0 x1 : Option Value} {v : Int32} : Run 149 90 (x0 :: x1 :: some (.int v) :: L) S h = Run 149 91 (x0 :: x1 :: some (.int v) :: L) (.int v :: S) h := Rg rfl
set_option maxRecDepth 100000 in
theorem e149_91 {L : Lo} {S : List Value} {h : Hp} {x z : Int32} : Run 149 91 L (.int z :: .int x :: S) h = if x = z then Run 149 94 L S h else Run 149 141 L S h := RbrN (c := cnd .ne x z = true) (off := 50) rfl rfl cnd_ne
set_option maxRecDepth 100000 in
theorem e149_94 {L : Lo} {S : List Value} {h : Hp} {v : Nat} : Run 149 94 (some (.ref v) :: L) S h = Run 149 95 (some (.ref v) :: L) (.ref v :: S) h := Rg rfl
set_option maxRecDepth 100000 in
theorem e149_95 {L : Lo} {S : List Value} {h : Hp} {x0 x1 : Option Value} {v : Int32} : Run 149 95 (x0 :: x1 :: some (.int v) :: L) S h = Run 149 96 (x0 :: x1 :: some (.int v) :: L) (.int v :: S) h := Rg rfl
set_option maxRecDepth 100000 in
theorem e149_96 {L : Lo} {S : List Value} {h : Hp} : Run 149 96 L S h = Run 149 98 L (.int 11 :: S) h := Rg rfl
set_option maxRecDepth 100000 in
theorem e149_98 {L : Lo} {h : Hp} {a2 : Int32} {a1 : Int32} {a0 : Nat} : Run 149 98 L [.int a2, .int a1, .ref a0] h = (Run 126 0 [some (.ref a0), some (.int a1), some (.int a2), none] [] h).bind fun o => aft 149 98 101 L [] o := Rc (c := 126) (As := [.ref a0, .int a1, .int a2]) (S' := []) (pc' := 101) rfl
set_option maxRecDepth 100000 in
theorem e149_101 {L : Lo} {S : List Value} {h : Hp} {x0 : Option Value} {v : Int32} : Run 149 101 (x0 :: some (.int v) :: L) S h = Run 149 102 (x0 :: some (.int v) :: L) (.int v :: S) h := Rg rfl
set_option maxRecDepth 100000 in
theorem e149_102 {L : Lo} {S : List Value} {h : Hp} {x z : Int32} : Run 149 102 L (.int z :: .int x :: S) h = if x = z then Run 149 105 L S h else Run 149 141 L S h := RbrN (c := cnd .ne x z = true) (off := 39) rfl rfl cnd_ne
set_option maxRecDepth 100000 in
theorem e149_105 {L : Lo} {S : List Value} {h : Hp} {v : Nat} : Run 149 105 (some (.ref v) :: L) S h = Run 149 106 (some (.ref v) :: L) (.ref v :: S) h := Rg rfl
set_option maxRecDepth 100000 in
theorem e149_106 {L : Lo} {S : List Value} {h : Hp} {x0 : Option Value} {v : Int32} : Run 149 106 (x0 :: some (.int v) :: L) S h = Run 149 107 (x0 :: some (.int v) :: L) (.int v :: S) h := Rg rfl
set_option maxRecDepth 100000 in
theorem e149_107 {L : Lo} {h : Hp} {a1 : Int32} {a0 : Nat} : Run 149 107 L [.int a1, .ref a0] h = (Run 130 0 [some (.ref a0), some (.int a1), none] [] h).bind fun o => aft 149 107 110 L [] o := Rc (c := 130) (As := [.ref a0, .int a1]) (S' := []) (pc' := 110) rfl
set_option maxRecDepth 100000 in
theorem e149_110 {L : Lo} {S : List Value} {h : Hp} : Run 149 110 L S h = Run 149 113 L (.int (-902) :: S) h := Rg rfl
set_option maxRecDepth 100000 in
theorem e149_113 {L : Lo} {S : List Value} {h : Hp} {x z : Int32} : Run 149 113 L (.int z :: .int x :: S) h = if x = z then Run 149 116 L S h else Run 149 141 L S h := RbrN (c := cnd .ne x z = true) (off := 28) rfl rfl cnd_ne
set_option maxRecDepth 100000 in
theorem e149_116 {L : Lo} {S : List Value} {h : Hp} {v : Nat} : Run 149 116 (some (.ref v) :: L) S h = Run 149 117 (some (.ref v) :: L) (.ref v :: S) h := Rg rfl
set_option maxRecDepth 100000 in
theorem e149_117 {L : Lo} {S : List Value} {h : Hp} {x0 x1 : Option Value} {v : Int32} : Run 149 117 (x0 :: x1 :: some (.int v) :: L) S h = Run 149 118 (x0 :: x1 :: some (.int v) :: L) (.int v :: S) h := Rg rfl
set_option maxRecDepth 100000 in
theorem e149_118 {L : Lo} {S : List Value} {h : Hp} : Run 149 118 L S h = Run 149 119 L (.int 1 :: S) h := Rg rfl
set_option maxRecDepth 100000 in
theorem e149_119 {L : Lo} {h : Hp} {a2 : Int32} {a1 : Int32} {a0 : Nat} : Run 149 119 L [.int a2, .int a1, .ref a0] h = (Run 131 0 [some (.ref a0), some (.int a1), some (.int a2), none] [] h).bind fun o => aft 149 119 122 L [] o := Rc (c := 131) (As := [.ref a0, .int a1, .int a2]) (S' := []) (pc' := 122) rfl
set_option maxRecDepth 100000 in
theorem e149_122 {L : Lo} {S : List Value} {h : Hp} : Run 149 122 L S h = Run 149 125 L (.int (-902) :: S) h := Rg rfl
set_option maxRecDepth 100000 in
theorem e149_125 {L : Lo} {S : List Value} {h : Hp} {x z : Int32} : Run 149 125 L (.int z :: .int x :: S) h = if x = z then Run 149 128 L S h else Run 149 141 L S h := RbrN (c := cnd .ne x z = true) (off := 16) rfl rfl cnd_ne
set_option maxRecDepth 100000 in
theorem e149_128 {L : Lo} {S : List Value} {h : Hp} {v : Nat} : Run 149 128 (some (.ref v) :: L) S h = Run 149 129 (some (.ref v) :: L) (.ref v :: S) h := Rg rfl
set_option maxRecDepth 100000 in
theorem e149_129 {L : Lo} {S : List Value} {h : Hp} {x0 : Option Value} {v : Int32} : Run 149 129 (x0 :: some (.int v) :: L) S h = Run 149 130 (x0 :: some (.int v) :: L) (.int v :: S) h := Rg rfl
set_option maxRecDepth 100000 in
theorem e149_130 {L : Lo} {h : Hp} {a1 : Int32} {a0 : Nat} : Run 149 130 L [.int a1, .ref a0] h = (Run 137 0 [some (.ref a0), some (.int a1), none] [] h).bind fun o => aft 149 130 133 L [] o := Rc (c := 137) (As := [.ref a0, .int a1]) (S' := []) (pc' := 133) rfl
set_option maxRecDepth 100000 in
theorem e149_133 {L : Lo} {S : List Value} {h : Hp} : Run 149 133 L S h = Run 149 134 L (.int 1 :: S) h := Rg rfl
set_option maxRecDepth 100000 in
theorem e149_134 {L : Lo} {S : List Value} {h : Hp} {x z : Int32} : Run 149 134 L (.int z :: .int x :: S) h = if x = z then Run 149 137 L S h else Run 149 141 L S h := RbrN (c := cnd .ne x z = true) (off := 7) rfl rfl cnd_ne
set_option maxRecDepth 100000 in
theorem e149_137 {L : Lo} {S : List Value} {h : Hp} : Run 149 137 L S h = Run 149 138 L (.int 1 :: S) h := Rg rfl
set_option maxRecDepth 100000 in
theorem e149_138 {L : Lo} {S : List Value} {h : Hp} : Run 149 138 L S h = Run 149 142 L S h := Rg rfl
set_option maxRecDepth 100000 in
theorem e149_141 {L : Lo} {S : List Value} {h : Hp} : Run 149 141 L S h = Run 149 142 L (.int 0 :: S) h := Rg rfl
set_option maxRecDepth 100000 in
theorem e149_142 {L : Lo} {h : Hp} {x : Int32} (hx : narrow .boolean (.int x) = .int x) : Run 149 142 L [.int x] h = some (.inl (some (.int x)), h) := Rd (if_pos hx)
set_option maxRecDepth 100000 in
theorem e149_143 {L : Lo} {S : List Value} {h : Hp} {v : Nat} : Run 149 143 (some (.ref v) :: L) S h = Run 149 144 (some (.ref v) :: L) (.ref v :: S) h := Rg rfl
set_option maxRecDepth 100000 in
theorem e149_144 {L : Lo} {S : List Value} {h : Hp} {x0 : Option Value} {v : Int32} : Run 149 144 (x0 :: some (.int v) :: L) S h = Run 149 145 (x0 :: some (.int v) :: L) (.int v :: S) h := Rg rfl
set_option maxRecDepth 100000 in
theorem e149_145 {L : Lo} {S : List Value} {h : Hp} : Run 149 145 L S h = Run 149 146 L (.int 0 :: S) h := Rg rfl
set_option maxRecDepth 100000 in
theorem e149_146 {L : Lo} {h : Hp} {a2 : Int32} {a1 : Int32} {a0 : Nat} : Run 149 146 L [.int a2, .int a1, .ref a0] h = (Run 126 0 [some (.ref a0), some (.int a1), some (.int a2), none] [] h).bind fun o => aft 149 146 149 L [] o := Rc (c := 126) (As := [.ref a0, .int a1, .int a2]) (S' := []) (pc' := 149) rfl
set_option maxRecDepth 100000 in
theorem e149_149 {L : Lo} {S : List Value} {h : Hp} {x0 x1 x2 x3 x4 : Option Value} {y : Option Value} {v : Int32} : Run 149 149 (x0 :: x1 :: x2 :: x3 :: x4 :: y :: L) (.int v :: S) h = Run 149 151 (x0 :: x1 :: x2 :: x3 :: ck x4 :: some (.int v) :: L) S h := Rg rfl
set_option maxRecDepth 100000 in
theorem e149_151 {L : Lo} {S : List Value} {h : Hp} {v : Nat} : Run 149 151 (some (.ref v) :: L) S h = Run 149 152 (some (.ref v) :: L) (.ref v :: S) h := Rg rfl
set_option maxRecDepth 100000 in
theorem e149_152 {L : Lo} {S : List Value} {h : Hp} {x0 : Option Value} {v : Int32} : Run 149 152 (x0 :: some (.int v) :: L) S h = Run 149 153 (x0 :: some (.int v) :: L) (.int v :: S) h := Rg rfl
set_option maxRecDepth 100000 in
theorem e149_153 {L : Lo} {S : List Value} {h : Hp} : Run 149 153 L S h = Run 149 155 L (.int 7 :: S) h := Rg rfl
set_option maxRecDepth 100000 in
theorem e149_155 {L : Lo} {h : Hp} {a2 : Int32} {a1 : Int32} {a0 : Nat} : Run 149 155 L [.int a2, .int a1, .ref a0] h = (Run 126 0 [some (.ref a0), some (.int a1), some (.int a2), none] [] h).bind fun o => aft 149 155 158 L [] o := Rc (c := 126) (As := [.ref a0, .int a1, .int a2]) (S' := []) (pc' := 158) rfl
set_option maxRecDepth 100000 in
theorem e149_158 {L : Lo} {S : List Value} {h : Hp} {x0 x1 x2 x3 x4 x5 : Option Value} {y : Option Value} {v : Int32} : Run 149 158 (x0 :: x1 :: x2 :: x3 :: x4 :: x5 :: y :: L) (.int v :: S) h = Run 149 160 (x0 :: x1 :: x2 :: x3 :: x4 :: ck x5 :: some (.int v) :: L) S h := Rg rfl
set_option maxRecDepth 100000 in
theorem e149_160 {L : Lo} {S : List Value} {h : Hp} {v : Nat} : Run 149 160 (some (.ref v) :: L) S h = Run 149 161 (some (.ref v) :: L) (.ref v :: S) h := Rg rfl
set_option maxRecDepth 100000 in
theorem e149_161 {L : Lo} {S : List Value} {h : Hp} {x0 x1 x2 x3 : Option Value} {v : Int32} : Run 149 161 (x0 :: x1 :: x2 :: x3 :: some (.int v) :: L) S h = Run 149 163 (x0 :: x1 :: x2 :: x3 :: some (.int v) :: L) (.int v :: S) h := Rg rfl
set_option maxRecDepth 100000 in
theorem e149_163 {L : Lo} {S : List Value} {h : Hp} : Run 149 163 L S h = Run 149 165 L (.int 7 :: S) h := Rg rfl
set_option maxRecDepth 100000 in
theorem e149_165 {L : Lo} {h : Hp} {a2 : Int32} {a1 : Int32} {a0 : Nat} : Run 149 165 L [.int a2, .int a1, .ref a0] h = (Run 126 0 [some (.ref a0), some (.int a1), some (.int a2), none] [] h).bind fun o => aft 149 165 168 L [] o := Rc (c := 126) (As := [.ref a0, .int a1, .int a2]) (S' := []) (pc' := 168) rfl
set_option maxRecDepth 100000 in
theorem e149_168 {L : Lo} {S : List Value} {h : Hp} {x0 x1 x2 x3 x4 x5 x6 : Option Value} {y : Option Value} {v : Int32} : Run 149 168 (x0 :: x1 :: x2 :: x3 :: x4 :: x5 :: x6 :: y :: L) (.int v :: S) h = Run 149 170 (x0 :: x1 :: x2 :: x3 :: x4 :: x5 :: ck x6 :: some (.int v) :: L) S h := Rg rfl
set_option maxRecDepth 100000 in
theorem e149_170 {L : Lo} {S : List Value} {h : Hp} {v : Nat} : Run 149 170 (some (.ref v) :: L) S h = Run 149 171 (some (.ref v) :: L) (.ref v :: S) h := Rg rfl
set_option maxRecDepth 100000 in
theorem e149_171 {L : Lo} {S : List Value} {h : Hp} {x0 : Option Value} {v : Int32} : Run 149 171 (x0 :: some (.int v) :: L) S h = Run 149 172 (x0 :: some (.int v) :: L) (.int v :: S) h := Rg rfl
set_option maxRecDepth 100000 in
theorem e149_172 {L : Lo} {S : List Value} {h : Hp} : Run 149 172 L S h = Run 149 174 L (.int 14 :: S) h := Rg rfl
set_option maxRecDepth 100000 in
theorem e149_174 {L : Lo} {h : Hp} {a2 : Int32} {a1 : Int32} {a0 : Nat} : Run 149 174 L [.int a2, .int a1, .ref a0] h = (Run 126 0 [some (.ref a0), some (.int a1), some (.int a2), none] [] h).bind fun o => aft 149 174 177 L [] o := Rc (c := 126) (As := [.ref a0, .int a1, .int a2]) (S' := []) (pc' := 177) rfl
set_option maxRecDepth 100000 in
theorem e149_177 {L : Lo} {S : List Value} {h : Hp} {x0 x1 x2 x3 x4 x5 x6 x7 : Option Value} {y : Option Value} {v : Int32} : Run 149 177 (x0 :: x1 :: x2 :: x3 :: x4 :: x5 :: x6 :: x7 :: y :: L) (.int v :: S) h = Run 149 179 (x0 :: x1 :: x2 :: x3 :: x4 :: x5 :: x6 :: ck x7 :: some (.int v) :: L) S h := Rg rfl
set_option maxRecDepth 100000 in
theorem e149_179 {L : Lo} {S : List Value} {h : Hp} {v : Nat} : Run 149 179 (some (.ref v) :: L) S h = Run 149 180 (some (.ref v) :: L) (.ref v :: S) h := Rg rfl
set_option maxRecDepth 100000 in
theorem e149_180 {L : Lo} {S : List Value} {h : Hp} : Run 149 180 L S h = Run 149 182 L (.int 6 :: S) h := Rg rfl
set_option maxRecDepth 100000 in
theorem e149_182 {L : Lo} {h : Hp} {a1 : Int32} {a0 : Nat} : Run 149 182 L [.int a1, .ref a0] h = (Run 125 0 [some (.ref a0), some (.int a1), none] [] h).bind fun o => aft 149 182 185 L [] o := Rc (c := 125) (As := [.ref a0, .int a1]) (S' := []) (pc' := 185) rfl
set_option maxRecDepth 100000 in
theorem e149_185 {L : Lo} {S : List Value} {h : Hp} {v : Nat} : Run 149 185 (some (.ref v) :: L) S h = Run 149 186 (some (.ref v) :: L) (.ref v :: S) h := Rg rfl
set_option maxRecDepth 100000 in
theorem e149_186 {L : Lo} {S : List Value} {h : Hp} : Run 149 186 L S h = Run 149 188 L (.int 7 :: S) h := Rg rfl
set_option maxRecDepth 100000 in
theorem e149_188 {L : Lo} {h : Hp} {a2 : Int32} {a1 : Nat} {a0 : Int32} : Run 149 188 L [.int a2, .ref a1, .int a0] h = (Run 125 0 [some (.ref a1), some (.int a2), none] [] h).bind fun o => aft 149 188 191 L [.int a0] o := Rc (c := 125) (As := [.ref a1, .int a2]) (S' := [.int a0]) (pc' := 191) rfl
set_option maxRecDepth 100000 in
theorem e149_191 {L : Lo} {S : List Value} {h : Hp} {x z : Int32} : Run 149 191 L (.int z :: .int x :: S) h = Run 149 192 L (.int (x + z) :: S) h := Rg rfl
set_option maxRecDepth 100000 in
theorem e149_192 {L : Lo} {S : List Value} {h : Hp} {x0 x1 x2 x3 x4 x5 x6 x7 x8 : Option Value} {y : Option Value} {v : Int32} : Run 149 192 (x0 :: x1 :: x2 :: x3 :: x4 :: x5 :: x6 :: x7 :: x8 :: y :: L) (.int v :: S) h = Run 149 194 (x0 :: x1 :: x2 :: x3 :: x4 :: x5 :: x6 :: x7 :: ck x8 :: some (.int v) :: L) S h := Rg rfl
set_option maxRecDepth 100000 in
theorem e149_194 {L : Lo} {S : List Value} {h : Hp} {x0 x1 x2 : Option Value} {v : Int32} : Run 149 194 (x0 :: x1 :: x2 :: some (.int v) :: L) S h = Run 149 195 (x0 :: x1 :: x2 :: some (.int v) :: L) (.int v :: S) h := Rg rfl
set_option maxRecDepth 100000 in
theorem e149_195 {L : Lo} {S : List Value} {h : Hp} : Run 149 195 L S h = Run 149 196 L (.int 4 :: S) h := Rg rfl
set_option maxRecDepth 100000 in
theorem e149_196 {L : Lo} {h : Hp} {a1 : Int32} {a0 : Int32} : Run 149 196 L [.int a1, .int a0] h = (Run 120 0 [some (.int a0), some (.int a1)] [] h).bind fun o => aft 149 196 199 L [] o := Rc (c := 120) (As := [.int a0, .int a1]) (S' := []) (pc' := 199) rfl
set_option maxRecDepth 100000 in
theorem e149_199 {L : Lo} {S : List Value} {h : Hp} {x : Int32} : Run 149 199 L (.int x :: S) h = if x = 0 then Run 149 202 L S h else Run 149 253 L S h := RbrN (c := cnd .ne x 0 = true) (off := 54) rfl rfl cnd_ne
set_option maxRecDepth 100000 in
theorem e149_202 {L : Lo} {S : List Value} {h : Hp} {v : Nat} : Run 149 202 (some (.ref v) :: L) S h = Run 149 203 (some (.ref v) :: L) (.ref v :: S) h := Rg rfl
set_option maxRecDepth 100000 in
theorem e149_203 {L : Lo} {S : List Value} {h : Hp} {x0 : Option Value} {v : Int32} : Run 149 203 (x0 :: some (.int v) :: L) S h = Run 149 204 (x0 :: some (.int v) :: L) (.int v :: S) h := Rg rfl
set_option maxRecDepth 100000 in
theorem e149_204 {L : Lo} {h : Hp} {a1 : Int32} {a0 : Nat} : Run 149 204 L [.int a1, .ref a0] h = (Run 135 0 [some (.ref a0), some (.int a1), none] [] h).bind fun o => aft 149 204 207 L [] o := Rc (c := 135) (As := [.ref a0, .int a1]) (S' := []) (pc' := 207) rfl
set_option maxRecDepth 100000 in
theorem e149_207 {L : Lo} {S : List Value} {h : Hp} {x0 x1 x2 x3 : Option Value} {v : Int32} : Run 149 207 (x0 :: x1 :: x2 :: x3 :: some (.int v) :: L) S h = Run 149 209 (x0 :: x1 :: x2 :: x3 :: some (.int v) :: L) (.int v :: S) h := Rg rfl
set_option maxRecDepth 100000 in
theorem e149_209 {L : Lo} {S : List Value} {h : Hp} {x z : Int32} : Run 149 209 L (.int z :: .int x :: S) h = if x = z then Run 149 212 L S h else Run 149 251 L S h := RbrN (c := cnd .ne x z = true) (off := 42) rfl rfl cnd_ne
set_option maxRecDepth 100000 in
theorem e149_212 {L : Lo} {S : List Value} {h : Hp} {v : Nat} : Run 149 212 (some (.ref v) :: L) S h = Run 149 213 (some (.ref v) :: L) (.ref v :: S) h := Rg rfl
set_option maxRecDepth 100000 in
theorem e149_213 {L : Lo} {S : List Value} {h : Hp} {x0 x1 x2 x3 : Option Value} {v : Int32} : Run 149 213 (x0 :: x1 :: x2 :: x3 :: some (.int v) :: L) S h = Run 149 215 (x0 :: x1 :: x2 :: x3 :: some (.int v) :: L) (.int v :: S) h := Rg rfl
set_option maxRecDepth 100000 in
theorem e149_215 {L : Lo} {S : List Value} {h : Hp} : Run 149 215 L S h = Run 149 217 L (.int 11 :: S) h := Rg rfl
set_option maxRecDepth 100000 in
theorem e149_217 {L : Lo} {h : Hp} {a2 : Int32} {a1 : Int32} {a0 : Nat} : Run 149 217 L [.int a2, .int a1, .ref a0] h = (Run 126 0 [some (.ref a0), some (.int a1), some (.int a2), none] [] h).bind fun o => aft 149 217 220 L [] o := Rc (c := 126) (As := [.ref a0, .int a1, .int a2]) (S' := []) (pc' := 220) rfl
set_option maxRecDepth 100000 in
theorem e149_220 {L : Lo} {S : List Value} {h : Hp} : Run 149 220 L S h = Run 149 221 L (.int (-1) :: S) h := Rg rfl
set_option maxRecDepth 100000 in
theorem e149_221 {L : Lo} {S : List Value} {h : Hp} {x z : Int32} : Run 149 221 L (.int z :: .int x :: S) h = if x = z then Run 149 224 L S h else Run 149 251 L S h := RbrN (c := cnd .ne x z = true) (off := 30) rfl rfl cnd_ne
set_option maxRecDepth 100000 in
theorem e149_224 {L : Lo} {S : List Value} {h : Hp} {v : Nat} : Run 149 224 (some (.ref v) :: L) S h = Run 149 225 (some (.ref v) :: L) (.ref v :: S) h := Rg rfl
set_option maxRecDepth 100000 in
theorem e149_225 {L : Lo} {S : List Value} {h : Hp} {x0 : Option Value} {v : Int32} : Run 149 225 (x0 :: some (.int v) :: L) S h = Run 149 226 (x0 :: some (.int v) :: L) (.int v :: S) h := Rg rfl
set_option maxRecDepth 100000 in
theorem e149_226 {L : Lo} {S : List Value} {h : Hp} : Run 149 226 L S h = Run 149 228 L (.int 11 :: S) h := Rg rfl
set_option maxRecDepth 100000 in
theorem e149_228 {L : Lo} {h : Hp} {a2 : Int32} {a1 : Int32} {a0 : Nat} : Run 149 228 L [.int a2, .int a1, .ref a0] h = (Run 126 0 [some (.ref a0), some (.int a1), some (.int a2), none] [] h).bind fun o => aft 149 228 231 L [] o := Rc (c := 126) (As := [.ref a0, .int a1, .int a2]) (S' := []) (pc' := 231) rfl
set_option maxRecDepth 100000 in
theorem e149_231 {L : Lo} {S : List Value} {h : Hp} : Run 149 231 L S h = Run 149 232 L (.int (-1) :: S) h := Rg rfl
set_option maxRecDepth 100000 in
theorem e149_232 {L : Lo} {S : List Value} {h : Hp} {x z : Int32} : Run 149 232 L (.int z :: .int x :: S) h = if x = z then Run 149 235 L S h else Run 149 251 L S h := RbrN (c := cnd .ne x z = true) (off := 19) rfl rfl cnd_ne
set_option maxRecDepth 100000 in
theorem e149_235 {L : Lo} {S : List Value} {h : Hp} {v : Nat} : Run 149 235 (some (.ref v) :: L) S h = Run 149 236 (some (.ref v) :: L) (.ref v :: S) h := Rg rfl
set_option maxRecDepth 100000 in
theorem e149_236 {L : Lo} {S : List Value} {h : Hp} {x0 : Option Value} {v : Int32} : Run 149 236 (x0 :: some (.int v) :: L) S h = Run 149 237 (x0 :: some (.int v) :: L) (.int v :: S) h := Rg rfl
set_option maxRecDepth 100000 in
theorem e149_237 {L : Lo} {S : List Value} {h : Hp} : Run 149 237 L S h = Run 149 239 L (.int 7 :: S) h := Rg rfl
set_option maxRecDepth 100000 in
theorem e149_239 {L : Lo} {h : Hp} {a2 : Int32} {a1 : Int32} {a0 : Nat} : Run 149 239 L [.int a2, .int a1, .ref a0] h = (Run 126 0 [some (.ref a0), some (.int a1), some (.int a2), none] [] h).bind fun o => aft 149 239 242 L [] o := Rc (c := 126) (As := [.ref a0, .int a1, .int a2]) (S' := []) (pc' := 242) rfl
set_option maxRecDepth 100000 in
theorem e149_242 {L : Lo} {S : List Value} {h : Hp} {x0 x1 x2 x3 x4 x5 : Option Value} {v : Int32} : Run 149 242 (x0 :: x1 :: x2 :: x3 :: x4 :: x5 :: some (.int v) :: L) S h = Run 149 244 (x0 :: x1 :: x2 :: x3 :: x4 :: x5 :: some (.int v) :: L) (.int v :: S) h := Rg rfl
set_option maxRecDepth 100000 in
theorem e149_244 {L : Lo} {S : List Value} {h : Hp} {x z : Int32} : Run 149 244 L (.int z :: .int x :: S) h = if x = z then Run 149 247 L S h else Run 149 251 L S h := RbrN (c := cnd .ne x z = true) (off := 7) rfl rfl cnd_ne
set_option maxRecDepth 100000 in
theorem e149_247 {L : Lo} {S : List Value} {h : Hp} : Run 149 247 L S h = Run 149 248 L (.int 1 :: S) h := Rg rfl
set_option maxRecDepth 100000 in
theorem e149_248 {L : Lo} {S : List Value} {h : Hp} : Run 149 248 L S h = Run 149 252 L S h := Rg rfl
set_option maxRecDepth 100000 in
theorem e149_251 {L : Lo} {S : List Value} {h : Hp} : Run 149 251 L S h = Run 149 252 L (.int 0 :: S) h := Rg rfl
set_option maxRecDepth 100000 in
theorem e149_252 {L : Lo} {h : Hp} {x : Int32} (hx : narrow .boolean (.int x) = .int x) : Run 149 252 L [.int x] h = some (.inl (some (.int x)), h) := Rd (if_pos hx)
set_option maxRecDepth 100000 in
theorem e149_253 {L : Lo} {S : List Value} {h : Hp} {v : Nat} : Run 149 253 (some (.ref v) :: L) S h = Run 149 254 (some (.ref v) :: L) (.ref v :: S) h := Rg rfl
set_option maxRecDepth 100000 in
theorem e149_254 {L : Lo} {S : List Value} {h : Hp} {x0 : Option Value} {v : Int32} : Run 149 254 (x0 :: some (.int v) :: L) S h = Run 149 255 (x0 :: some (.int v) :: L) (.int v :: S) h := Rg rfl
set_option maxRecDepth 100000 in
theorem e149_255 {L : Lo} {h : Hp} {a1 : Int32} {a0 : Nat} : Run 149 255 L [.int a1, .ref a0] h = (Run 136 0 [some (.ref a0), some (.int a1), none] [] h).bind fun o => aft 149 255 258 L [] o := Rc (c := 136) (As := [.ref a0, .int a1]) (S' := []) (pc' := 258) rfl
set_option maxRecDepth 100000 in
theorem e149_258 {L : Lo} {S : List Value} {h : Hp} {x0 x1 x2 x3 x4 x5 x6 x7 x8 x9 : Option Value} {y : Option Value} {v : Int32} : Run 149 258 (x0 :: x1 :: x2 :: x3 :: x4 :: x5 :: x6 :: x7 :: x8 :: x9 :: y :: L) (.int v :: S) h = Run 149 260 (x0 :: x1 :: x2 :: x3 :: x4 :: x5 :: x6 :: x7 :: x8 :: ck x9 :: some (.int v) :: L) S h := Rg rfl
set_option maxRecDepth 100000 in
theorem e149_260 {L : Lo} {S : List Value} {h : Hp} {x0 x1 x2 x3 x4 x5 x6 x7 x8 x9 : Option Value} {v : Int32} : Run 149 260 (x0 :: x1 :: x2 :: x3 :: x4 :: x5 :: x6 :: x7 :: x8 :: x9 :: some (.int v) :: L) S h = Run 149 262 (x0 :: x1 :: x2 :: x3 :: x4 :: x5 :: x6 :: x7 :: x8 :: x9 :: some (.int v) :: L) (.int v :: S) h := Rg rfl
set_option maxRecDepth 100000 in
theorem e149_262 {L : Lo} {S : List Value} {h : Hp} : Run 149 262 L S h = Run 149 265 L (.int (-902) :: S) h := Rg rfl
set_option maxRecDepth 100000 in
theorem e149_265 {L : Lo} {S : List Value} {h : Hp} {x z : Int32} : Run 149 265 L (.int z :: .int x :: S) h = if x = z then Run 149 268 L S h else Run 149 292 L S h := RbrN (c := cnd .ne x z = true) (off := 27) rfl rfl cnd_ne
set_option maxRecDepth 100000 in
theorem e149_268 {L : Lo} {S : List Value} {h : Hp} {x0 x1 x2 x3 x4 x5 x6 x7 : Option Value} {v : Int32} : Run 149 268 (x0 :: x1 :: x2 :: x3 :: x4 :: x5 :: x6 :: x7 :: some (.int v) :: L) S h = Run 149 270 (x0 :: x1 :: x2 :: x3 :: x4 :: x5 :: x6 :: x7 :: some (.int v) :: L) (.int v :: S) h := Rg rfl
set_option maxRecDepth 100000 in
theorem e149_270 {L : Lo} {S : List Value} {h : Hp} : Run 149 270 L S h = Run 149 271 L (.int 1 :: S) h := Rg rfl
set_option maxRecDepth 100000 in
theorem e149_271 {L : Lo} {S : List Value} {h : Hp} {x z : Int32} : Run 149 271 L (.int z :: .int x :: S) h = if x = z then Run 149 274 L S h else Run 149 290 L S h := RbrN (c := cnd .ne x z = true) (off := 19) rfl rfl cnd_ne
set_option maxRecDepth 100000 in
theorem e149_274 {L : Lo} {S : List Value} {h : Hp} {v : Nat} : Run 149 274 (some (.ref v) :: L) S h = Run 149 275 (some (.ref v) :: L) (.ref v :: S) h := Rg rfl
set_option maxRecDepth 100000 in
theorem e149_275 {L : Lo} {S : List Value} {h : Hp} {x0 : Option Value} {v : Int32} : Run 149 275 (x0 :: some (.int v) :: L) S h = Run 149 276 (x0 :: some (.int v) :: L) (.int v :: S) h := Rg rfl
set_option maxRecDepth 100000 in
theorem e149_276 {L : Lo} {S : List Value} {h : Hp} : Run 149 276 L S h = Run 149 278 L (.int 7 :: S) h := Rg rfl
set_option maxRecDepth 100000 in
theorem e149_278 {L : Lo} {h : Hp} {a2 : Int32} {a1 : Int32} {a0 : Nat} : Run 149 278 L [.int a2, .int a1, .ref a0] h = (Run 126 0 [some (.ref a0), some (.int a1), some (.int a2), none] [] h).bind fun o => aft 149 278 281 L [] o := Rc (c := 126) (As := [.ref a0, .int a1, .int a2]) (S' := []) (pc' := 281) rfl
set_option maxRecDepth 100000 in
theorem e149_281 {L : Lo} {S : List Value} {h : Hp} {x0 x1 x2 x3 x4 x5 : Option Value} {v : Int32} : Run 149 281 (x0 :: x1 :: x2 :: x3 :: x4 :: x5 :: some (.int v) :: L) S h = Run 149 283 (x0 :: x1 :: x2 :: x3 :: x4 :: x5 :: some (.int v) :: L) (.int v :: S) h := Rg rfl
set_option maxRecDepth 100000 in
theorem e149_283 {L : Lo} {S : List Value} {h : Hp} {x z : Int32} : Run 149 283 L (.int z :: .int x :: S) h = if x = z then Run 149 286 L S h else Run 149 290 L S h := RbrN (c := cnd .ne x z = true) (off := 7) rfl rfl cnd_ne
set_option maxRecDepth 100000 in
theorem e149_286 {L : Lo} {S : List Value} {h : Hp} : Run 149 286 L S h = Run 149 287 L (.int 1 :: S) h := Rg rfl
set_option maxRecDepth 100000 in
theorem e149_287 {L : Lo} {S : List Value} {h : Hp} : Run 149 287 L S h = Run 149 291 L S h := Rg rfl
set_option maxRecDepth 100000 in
theorem e149_290 {L : Lo} {S : List Value} {h : Hp} : Run 149 290 L S h = Run 149 291 L (.int 0 :: S) h := Rg rfl
set_option maxRecDepth 100000 in
theorem e149_291 {L : Lo} {h : Hp} {x : Int32} (hx : narrow .boolean (.int x) = .int x) : Run 149 291 L [.int x] h = some (.inl (some (.int x)), h) := Rd (if_pos hx)
set_option maxRecDepth 100000 in
theorem e149_292 {L : Lo} {S : List Value} {h : Hp} {x0 x1 x2 x3 x4 x5 x6 : Option Value} {v : Int32} : Run 149 292 (x0 :: x1 :: x2 :: x3 :: x4 :: x5 :: x6 :: some (.int v) :: L) S h = Run 149 294 (x0 :: x1 :: x2 :: x3 :: x4 :: x5 :: x6 :: some (.int v) :: L) (.int v :: S) h := Rg rfl
set_option maxRecDepth 100000 in
theorem e149_294 {L : Lo} {S : List Value} {h : Hp} {x0 x1 x2 x3 x4 x5 : Option Value} {v : Int32} : Run 149 294 (x0 :: x1 :: x2 :: x3 :: x4 :: x5 :: some (.int v) :: L) S h = Run 149 296 (x0 :: x1 :: x2 :: x3 :: x4 :: x5 :: some (.int v) :: L) (.int v :: S) h := Rg rfl
set_option maxRecDepth 100000 in
theorem e149_296 {L : Lo} {S : List Value} {h : Hp} : Run 149 296 L S h = Run 149 297 L (.int 2 :: S) h := Rg rfl
set_option maxRecDepth 100000 in
theorem e149_297 {L : Lo} {S : List Value} {h : Hp} {x z : Int32} : Run 149 297 L (.int z :: .int x :: S) h = Run 149 298 L (.int (x + z) :: S) h := Rg rfl
set_option maxRecDepth 100000 in
theorem e149_298 {L : Lo} {S : List Value} {h : Hp} : Run 149 298 L S h = Run 149 299 L (.int 3 :: S) h := Rg rfl
set_option maxRecDepth 100000 in
theorem e149_299 {L : Lo} {S : List Value} {h : Hp} {x z : Int32} (hz : ¬ z = 0) : Run 149 299 L (.int z :: .int x :: S) h = Run 149 300 L (.int (x / z) :: S) h := Rg (if_neg hz)
set_option maxRecDepth 100000 in
theorem e149_300 {L : Lo} {S : List Value} {h : Hp} {x z : Int32} : Run 149 300 L (.int z :: .int x :: S) h = Run 149 301 L (.int (x - z) :: S) h := Rg rfl
set_option maxRecDepth 100000 in
theorem e149_301 {L : Lo} {S : List Value} {h : Hp} {x0 x1 x2 x3 x4 x5 x6 x7 x8 x9 x10 : Option Value} {y : Option Value} {v : Int32} : Run 149 301 (x0 :: x1 :: x2 :: x3 :: x4 :: x5 :: x6 :: x7 :: x8 :: x9 :: x10 :: y :: L) (.int v :: S) h = Run 149 303 (x0 :: x1 :: x2 :: x3 :: x4 :: x5 :: x6 :: x7 :: x8 :: x9 :: ck x10 :: some (.int v) :: L) S h := Rg rfl
set_option maxRecDepth 100000 in
theorem e149_303 {L : Lo} {S : List Value} {h : Hp} {x0 x1 x2 x3 x4 x5 x6 x7 x8 x9 x10 : Option Value} {v : Int32} : Run 149 303 (x0 :: x1 :: x2 :: x3 :: x4 :: x5 :: x6 :: x7 :: x8 :: x9 :: x10 :: some (.int v) :: L) S h = Run 149 305 (x0 :: x1 :: x2 :: x3 :: x4 :: x5 :: x6 :: x7 :: x8 :: x9 :: x10 :: some (.int v) :: L) (.int v :: S) h := Rg rfl
set_option maxRecDepth 100000 in
theorem e149_305 {L : Lo} {S : List Value} {h : Hp} {x : Int32} : Run 149 305 L (.int x :: S) h = if 0 < x then Run 149 312 L S h else Run 149 308 L S h := Rbr (c := cnd .gt x 0 = true) (off := 7) rfl rfl cnd_gt
set_option maxRecDepth 100000 in
theorem e149_308 {L : Lo} {S : List Value} {h : Hp} : Run 149 308 L S h = Run 149 309 L (.int 1 :: S) h := Rg rfl
set_option maxRecDepth 100000 in
theorem e149_309 {L : Lo} {S : List Value} {h : Hp} : Run 149 309 L S h = Run 149 313 L S h := Rg rfl
set_option maxRecDepth 100000 in
theorem e149_312 {L : Lo} {S : List Value} {h : Hp} : Run 149 312 L S h = Run 149 313 L (.int 0 :: S) h := Rg rfl
set_option maxRecDepth 100000 in
theorem e149_313 {L : Lo} {S : List Value} {h : Hp} {x0 x1 x2 x3 x4 x5 x6 x7 x8 x9 x10 x11 : Option Value} {y : Option Value} {v : Int32} : Run 149 313 (x0 :: x1 :: x2 :: x3 :: x4 :: x5 :: x6 :: x7 :: x8 :: x9 :: x10 :: x11 :: y :: L) (.int v :: S) h = Run 149 315 (x0 :: x1 :: x2 :: x3 :: x4 :: x5 :: x6 :: x7 :: x8 :: x9 :: x10 :: ck x11 :: some (.int v) :: L) S h := Rg rfl
set_option maxRecDepth 100000 in
theorem e149_315 {L : Lo} {S : List Value} {h : Hp} {x0 x1 x2 x3 x4 x5 x6 x7 : Option Value} {v : Int32} : Run 149 315 (x0 :: x1 :: x2 :: x3 :: x4 :: x5 :: x6 :: x7 :: some (.int v) :: L) S h = Run 149 317 (x0 :: x1 :: x2 :: x3 :: x4 :: x5 :: x6 :: x7 :: some (.int v) :: L) (.int v :: S) h := Rg rfl
set_option maxRecDepth 100000 in
theorem e149_317 {L : Lo} {S : List Value} {h : Hp} {x : Int32} : Run 149 317 L (.int x :: S) h = if x = 0 then Run 149 320 L S h else Run 149 391 L S h := RbrN (c := cnd .ne x 0 = true) (off := 74) rfl rfl cnd_ne
set_option maxRecDepth 100000 in
theorem e149_320 {L : Lo} {S : List Value} {h : Hp} {x0 x1 x2 x3 x4 x5 x6 x7 x8 x9 : Option Value} {v : Int32} : Run 149 320 (x0 :: x1 :: x2 :: x3 :: x4 :: x5 :: x6 :: x7 :: x8 :: x9 :: some (.int v) :: L) S h = Run 149 322 (x0 :: x1 :: x2 :: x3 :: x4 :: x5 :: x6 :: x7 :: x8 :: x9 :: some (.int v) :: L) (.int v :: S) h := Rg rfl
set_option maxRecDepth 100000 in
theorem e149_322 {L : Lo} {S : List Value} {h : Hp} {x0 x1 x2 x3 x4 x5 x6 x7 x8 x9 x10 x11 : Option Value} {v : Int32} : Run 149 322 (x0 :: x1 :: x2 :: x3 :: x4 :: x5 :: x6 :: x7 :: x8 :: x9 :: x10 :: x11 :: some (.int v) :: L) S h = Run 149 324 (x0 :: x1 :: x2 :: x3 :: x4 :: x5 :: x6 :: x7 :: x8 :: x9 :: x10 :: x11 :: some (.int v) :: L) (.int v :: S) h := Rg rfl
set_option maxRecDepth 100000 in
theorem e149_324 {L : Lo} {S : List Value} {h : Hp} {x : Int32} : Run 149 324 L (.int x :: S) h = if x = 0 then Run 149 331 L S h else Run 149 327 L S h := Rbr (c := cnd .eq x 0 = true) (off := 7) rfl rfl cnd_eq
set_option maxRecDepth 100000 in
theorem e149_327 {L : Lo} {S : List Value} {h : Hp} : Run 149 327 L S h = Run 149 328 L (.int 1 :: S) h := Rg rfl
set_option maxRecDepth 100000 in
theorem e149_328 {L : Lo} {S : List Value} {h : Hp} : Run 149 328 L S h = Run 149 332 L S h := Rg rfl
set_option maxRecDepth 100000 in
theorem e149_331 {L : Lo} {S : List Value} {h : Hp} : Run 149 331 L S h = Run 149 332 L (.int 0 :: S) h := Rg rfl
set_option maxRecDepth 100000 in
theorem e149_332 {L : Lo} {S : List Value} {h : Hp} {x z : Int32} : Run 149 332 L (.int z :: .int x :: S) h = if x = z then Run 149 335 L S h else Run 149 391 L S h := RbrN (c := cnd .ne x z = true) (off := 59) rfl rfl cnd_ne
set_option maxRecDepth 100000 in
theorem e149_335 {L : Lo} {S : List Value} {h : Hp} {v : Nat} : Run 149 335 (some (.ref v) :: L) S h = Run 149 336 (some (.ref v) :: L) (.ref v :: S) h := Rg rfl
set_option maxRecDepth 100000 in
theorem e149_336 {L : Lo} {S : List Value} {h : Hp} {x0 : Option Value} {v : Int32} : Run 149 336 (x0 :: some (.int v) :: L) S h = Run 149 337 (x0 :: some (.int v) :: L) (.int v :: S) h := Rg rfl
set_option maxRecDepth 100000 in
theorem e149_337 {L : Lo} {S : List Value} {h : Hp} : Run 149 337 L S h = Run 149 338 L (.int 0 :: S) h := Rg rfl
set_option maxRecDepth 100000 in
theorem e149_338 {L : Lo} {h : Hp} {a2 : Int32} {a1 : Int32} {a0 : Nat} : Run 149 338 L [.int a2, .int a1, .ref a0] h = (Run 126 0 [some (.ref a0), some (.int a1), some (.int a2), none] [] h).bind fun o => aft 149 338 341 L [] o := Rc (c := 126) (As := [.ref a0, .int a1, .int a2]) (S' := []) (pc' := 341) rfl
set_option maxRecDepth 100000 in
theorem e149_341 {L : Lo} {S : List Value} {h : Hp} {x0 x1 x2 x3 x4 : Option Value} {v : Int32} : Run 149 341 (x0 :: x1 :: x2 :: x3 :: x4 :: some (.int v) :: L) S h = Run 149 343 (x0 :: x1 :: x2 :: x3 :: x4 :: some (.int v) :: L) (.int v :: S) h := Rg rfl
set_option maxRecDepth 100000 in
theorem e149_343 {L : Lo} {S : List Value} {h : Hp} {x z : Int32} : Run 149 343 L (.int z :: .int x :: S) h = if x = z then Run 149 346 L S h else Run 149 391 L S h := RbrN (c := cnd .ne x z = true) (off := 48) rfl rfl cnd_ne
set_option maxRecDepth 100000 in
theorem e149_346 {L : Lo} {S : List Value} {h : Hp} {v : Nat} : Run 149 346 (some (.ref v) :: L) S h = Run 149 347 (some (.ref v) :: L) (.ref v :: S) h := Rg rfl
set_option maxRecDepth 100000 in
theorem e149_347 {L : Lo} {S : List Value} {h : Hp} {x0 : Option Value} {v : Int32} : Run 149 347 (x0 :: some (.int v) :: L) S h = Run 149 348 (x0 :: some (.int v) :: L) (.int v :: S) h := Rg rfl
set_option maxRecDepth 100000 in
theorem e149_348 {L : Lo} {S : List Value} {h : Hp} : Run 149 348 L S h = Run 149 350 L (.int 14 :: S) h := Rg rfl
set_option maxRecDepth 100000 in
theorem e149_350 {L : Lo} {h : Hp} {a2 : Int32} {a1 : Int32} {a0 : Nat} : Run 149 350 L [.int a2, .int a1, .ref a0] h = (Run 126 0 [some (.ref a0), some (.int a1), some (.int a2), none] [] h).bind fun o => aft 149 350 353 L [] o := Rc (c := 126) (As := [.ref a0, .int a1, .int a2]) (S' := []) (pc' := 353) rfl
set_option maxRecDepth 100000 in
theorem e149_353 {L : Lo} {S : List Value} {h : Hp} : Run 149 353 L S h = Run 149 354 L (.int 1 :: S) h := Rg rfl
set_option maxRecDepth 100000 in
theorem e149_354 {L : Lo} {S : List Value} {h : Hp} {x z : Int32} : Run 149 354 L (.int z :: .int x :: S) h = if x = z then Run 149 357 L S h else Run 149 391 L S h := RbrN (c := cnd .ne x z = true) (off := 37) rfl rfl cnd_ne
set_option maxRecDepth 100000 in
theorem e149_357 {L : Lo} {S : List Value} {h : Hp} {v : Nat} : Run 149 357 (some (.ref v) :: L) S h = Run 149 358 (some (.ref v) :: L) (.ref v :: S) h := Rg rfl
set_option maxRecDepth 100000 in
theorem e149_358 {L : Lo} {S : List Value} {h : Hp} {x0 : Option Value} {v : Int32} : Run 149 358 (x0 :: some (.int v) :: L) S h = Run 149 359 (x0 :: some (.int v) :: L) (.int v :: S) h := Rg rfl
set_option maxRecDepth 100000 in
theorem e149_359 {L : Lo} {S : List Value} {h : Hp} : Run 149 359 L S h = Run 149 361 L (.int 7 :: S) h := Rg rfl
set_option maxRecDepth 100000 in
theorem e149_361 {L : Lo} {h : Hp} {a2 : Int32} {a1 : Int32} {a0 : Nat} : Run 149 361 L [.int a2, .int a1, .ref a0] h = (Run 126 0 [some (.ref a0), some (.int a1), some (.int a2), none] [] h).bind fun o => aft 149 361 364 L [] o := Rc (c := 126) (As := [.ref a0, .int a1, .int a2]) (S' := []) (pc' := 364) rfl
set_option maxRecDepth 100000 in
theorem e149_364 {L : Lo} {S : List Value} {h : Hp} {x0 x1 x2 x3 x4 x5 : Option Value} {v : Int32} : Run 149 364 (x0 :: x1 :: x2 :: x3 :: x4 :: x5 :: some (.int v) :: L) S h = Run 149 366 (x0 :: x1 :: x2 :: x3 :: x4 :: x5 :: some (.int v) :: L) (.int v :: S) h := Rg rfl
set_option maxRecDepth 100000 in
theorem e149_366 {L : Lo} {S : List Value} {h : Hp} {x z : Int32} : Run 149 366 L (.int z :: .int x :: S) h = if z < x then Run 149 391 L S h else Run 149 369 L S h := Rbr (c := cnd .gt x z = true) (off := 25) rfl rfl cnd_gt
set_option maxRecDepth 100000 in
theorem e149_369 {L : Lo} {S : List Value} {h : Hp} {v : Nat} : Run 149 369 (some (.ref v) :: L) S h = Run 149 370 (some (.ref v) :: L) (.ref v :: S) h := Rg rfl
set_option maxRecDepth 100000 in
theorem e149_370 {L : Lo} {S : List Value} {h : Hp} : Run 149 370 L S h = Run 149 372 L (.int 6 :: S) h := Rg rfl
set_option maxRecDepth 100000 in
theorem e149_372 {L : Lo} {h : Hp} {a1 : Int32} {a0 : Nat} : Run 149 372 L [.int a1, .ref a0] h = (Run 125 0 [some (.ref a0), some (.int a1), none] [] h).bind fun o => aft 149 372 375 L [] o := Rc (c := 125) (As := [.ref a0, .int a1]) (S' := []) (pc' := 375) rfl
set_option maxRecDepth 100000 in
theorem e149_375 {L : Lo} {S : List Value} {h : Hp} {v : Nat} : Run 149 375 (some (.ref v) :: L) S h = Run 149 376 (some (.ref v) :: L) (.ref v :: S) h := Rg rfl
set_option maxRecDepth 100000 in
theorem e149_376 {L : Lo} {S : List Value} {h : Hp} : Run 149 376 L S h = Run 149 378 L (.int 7 :: S) h := Rg rfl
set_option maxRecDepth 100000 in
theorem e149_378 {L : Lo} {h : Hp} {a2 : Int32} {a1 : Nat} {a0 : Int32} : Run 149 378 L [.int a2, .ref a1, .int a0] h = (Run 125 0 [some (.ref a1), some (.int a2), none] [] h).bind fun o => aft 149 378 381 L [.int a0] o := Rc (c := 125) (As := [.ref a1, .int a2]) (S' := [.int a0]) (pc' := 381) rfl
set_option maxRecDepth 100000 in
theorem e149_381 {L : Lo} {S : List Value} {h : Hp} {x z : Int32} : Run 149 381 L (.int z :: .int x :: S) h = Run 149 382 L (.int (x + z) :: S) h := Rg rfl
set_option maxRecDepth 100000 in
theorem e149_382 {L : Lo} {S : List Value} {h : Hp} {x0 x1 x2 x3 x4 x5 x6 x7 x8 : Option Value} {v : Int32} : Run 149 382 (x0 :: x1 :: x2 :: x3 :: x4 :: x5 :: x6 :: x7 :: x8 :: some (.int v) :: L) S h = Run 149 384 (x0 :: x1 :: x2 :: x3 :: x4 :: x5 :: x6 :: x7 :: x8 :: some (.int v) :: L) (.int v :: S) h := Rg rfl
set_option maxRecDepth 100000 in
theorem e149_384 {L : Lo} {S : List Value} {h : Hp} {x z : Int32} : Run 149 384 L (.int z :: .int x :: S) h = if x = z then Run 149 387 L S h else Run 149 391 L S h := RbrN (c := cnd .ne x z = true) (off := 7) rfl rfl cnd_ne
set_option maxRecDepth 100000 in
theorem e149_387 {L : Lo} {S : List Value} {h : Hp} : Run 149 387 L S h = Run 149 388 L (.int 1 :: S) h := Rg rfl
set_option maxRecDepth 100000 in
theorem e149_388 {L : Lo} {S : List Value} {h : Hp} : Run 149 388 L S h = Run 149 392 L S h := Rg rfl
set_option maxRecDepth 100000 in
theorem e149_391 {L : Lo} {S : List Value} {h : Hp} : Run 149 391 L S h = Run 149 392 L (.int 0 :: S) h := Rg rfl
set_option maxRecDepth 100000 in
theorem e149_392 {L : Lo} {S : List Value} {h : Hp} {x0 x1 x2 x3 x4 x5 x6 x7 x8 x9 x10 x11 x12 : Option Value} {y : Option Value} {v : Int32} : Run 149 392 (x0 :: x1 :: x2 :: x3 :: x4 :: x5 :: x6 :: x7 :: x8 :: x9 :: x10 :: x11 :: x12 :: y :: L) (.int v :: S) h = Run 149 394 (x0 :: x1 :: x2 :: x3 :: x4 :: x5 :: x6 :: x7 :: x8 :: x9 :: x10 :: x11 :: ck x12 :: some (.int v) :: L) S h := Rg rfl
set_option maxRecDepth 100000 in
theorem e149_394 {L : Lo} {S : List Value} {h : Hp} {x0 x1 x2 x3 x4 x5 x6 x7 x8 x9 x10 x11 : Option Value} {v : Int32} : Run 149 394 (x0 :: x1 :: x2 :: x3 :: x4 :: x5 :: x6 :: x7 :: x8 :: x9 :: x10 :: x11 :: some (.int v) :: L) S h = Run 149 396 (x0 :: x1 :: x2 :: x3 :: x4 :: x5 :: x6 :: x7 :: x8 :: x9 :: x10 :: x11 :: some (.int v) :: L) (.int v :: S) h := Rg rfl
set_option maxRecDepth 100000 in
theorem e149_396 {L : Lo} {S : List Value} {h : Hp} {x : Int32} : Run 149 396 L (.int x :: S) h = if x = 0 then Run 149 491 L S h else Run 149 399 L S h := Rbr (c := cnd .eq x 0 = true) (off := 95) rfl rfl cnd_eq
set_option maxRecDepth 100000 in
theorem e149_399 {L : Lo} {S : List Value} {h : Hp} {x0 x1 x2 x3 x4 x5 x6 x7 x8 x9 x10 x11 x12 : Option Value} {v : Int32} : Run 149 399 (x0 :: x1 :: x2 :: x3 :: x4 :: x5 :: x6 :: x7 :: x8 :: x9 :: x10 :: x11 :: x12 :: some (.int v) :: L) S h = Run 149 401 (x0 :: x1 :: x2 :: x3 :: x4 :: x5 :: x6 :: x7 :: x8 :: x9 :: x10 :: x11 :: x12 :: some (.int v) :: L) (.int v :: S) h := Rg rfl
set_option maxRecDepth 100000 in
theorem e149_401 {L : Lo} {S : List Value} {h : Hp} {x : Int32} : Run 149 401 L (.int x :: S) h = if x = 0 then Run 149 489 L S h else Run 149 404 L S h := Rbr (c := cnd .eq x 0 = true) (off := 88) rfl rfl cnd_eq
set_option maxRecDepth 100000 in
theorem e149_404 {L : Lo} {S : List Value} {h : Hp} {v : Nat} : Run 149 404 (some (.ref v) :: L) S h = Run 149 405 (some (.ref v) :: L) (.ref v :: S) h := Rg rfl
set_option maxRecDepth 100000 in
theorem e149_405 {L : Lo} {S : List Value} {h : Hp} {x0 x1 x2 x3 : Option Value} {v : Int32} : Run 149 405 (x0 :: x1 :: x2 :: x3 :: some (.int v) :: L) S h = Run 149 407 (x0 :: x1 :: x2 :: x3 :: some (.int v) :: L) (.int v :: S) h := Rg rfl
set_option maxRecDepth 100000 in
theorem e149_407 {L : Lo} {S : List Value} {h : Hp} : Run 149 407 L S h = Run 149 408 L (.int 0 :: S) h := Rg rfl
set_option maxRecDepth 100000 in
theorem e149_408 {L : Lo} {h : Hp} {a2 : Int32} {a1 : Int32} {a0 : Nat} : Run 149 408 L [.int a2, .int a1, .ref a0] h = (Run 126 0 [some (.ref a0), some (.int a1), some (.int a2), none] [] h).bind fun o => aft 149 408 411 L [] o := Rc (c := 126) (As := [.ref a0, .int a1, .int a2]) (S' := []) (pc' := 411) rfl
set_option maxRecDepth 100000 in
theorem e149_411 {L : Lo} {S : List Value} {h : Hp} {x0 x1 x2 x3 x4 : Option Value} {v : Int32} : Run 149 411 (x0 :: x1 :: x2 :: x3 :: x4 :: some (.int v) :: L) S h = Run 149 413 (x0 :: x1 :: x2 :: x3 :: x4 :: some (.int v) :: L) (.int v :: S) h := Rg rfl
set_option maxRecDepth 100000 in
theorem e149_413 {L : Lo} {S : List Value} {h : Hp} {x z : Int32} : Run 149 413 L (.int z :: .int x :: S) h = if x = z then Run 149 416 L S h else Run 149 489 L S h := RbrN (c := cnd .ne x z = true) (off := 76) rfl rfl cnd_ne
set_option maxRecDepth 100000 in
theorem e149_416 {L : Lo} {S : List Value} {h : Hp} {v : Nat} : Run 149 416 (some (.ref v) :: L) S h = Run 149 417 (some (.ref v) :: L) (.ref v :: S) h := Rg rfl
set_option maxRecDepth 100000 in
theorem e149_417 {L : Lo} {S : List Value} {h : Hp} {x0 : Option Value} {v : Int32} : Run 149 417 (x0 :: some (.int v) :: L) S h = Run 149 418 (x0 :: some (.int v) :: L) (.int v :: S) h := Rg rfl
set_option maxRecDepth 100000 in
theorem e149_418 {L : Lo} {S : List Value} {h : Hp} : Run 149 418 L S h = Run 149 420 L (.int 11 :: S) h := Rg rfl
set_option maxRecDepth 100000 in
theorem e149_420 {L : Lo} {h : Hp} {a2 : Int32} {a1 : Int32} {a0 : Nat} : Run 149 420 L [.int a2, .int a1, .ref a0] h = (Run 126 0 [some (.ref a0), some (.int a1), some (.int a2), none] [] h).bind fun o => aft 149 420 423 L [] o := Rc (c := 126) (As := [.ref a0, .int a1, .int a2]) (S' := []) (pc' := 423) rfl
set_option maxRecDepth 100000 in
theorem e149_423 {L : Lo} {S : List Value} {h : Hp} : Run 149 423 L S h = Run 149 424 L (.int (-1) :: S) h := Rg rfl
set_option maxRecDepth 100000 in
theorem e149_424 {L : Lo} {S : List Value} {h : Hp} {x z : Int32} : Run 149 424 L (.int z :: .int x :: S) h = if x = z then Run 149 427 L S h else Run 149 489 L S h := RbrN (c := cnd .ne x z = true) (off := 65) rfl rfl cnd_ne
set_option maxRecDepth 100000 in
theorem e149_427 {L : Lo} {S : List Value} {h : Hp} {v : Nat} : Run 149 427 (some (.ref v) :: L) S h = Run 149 428 (some (.ref v) :: L) (.ref v :: S) h := Rg rfl
set_option maxRecDepth 100000 in
theorem e149_428 {L : Lo} {S : List Value} {h : Hp} {x0 x1 x2 x3 : Option Value} {v : Int32} : Run 149 428 (x0 :: x1 :: x2 :: x3 :: some (.int v) :: L) S h = Run 149 430 (x0 :: x1 :: x2 :: x3 :: some (.int v) :: L) (.int v :: S) h := Rg rfl
set_option maxRecDepth 100000 in
theorem e149_430 {L : Lo} {S : List Value} {h : Hp} : Run 149 430 L S h = Run 149 432 L (.int 11 :: S) h := Rg rfl
set_option maxRecDepth 100000 in
theorem e149_432 {L : Lo} {h : Hp} {a2 : Int32} {a1 : Int32} {a0 : Nat} : Run 149 432 L [.int a2, .int a1, .ref a0] h = (Run 126 0 [some (.ref a0), some (.int a1), some (.int a2), none] [] h).bind fun o => aft 149 432 435 L [] o := Rc (c := 126) (As := [.ref a0, .int a1, .int a2]) (S' := []) (pc' := 435) rfl
set_option maxRecDepth 100000 in
theorem e149_435 {L : Lo} {S : List Value} {h : Hp} : Run 149 435 L S h = Run 149 436 L (.int (-1) :: S) h := Rg rfl
set_option maxRecDepth 100000 in
theorem e149_436 {L : Lo} {S : List Value} {h : Hp} {x z : Int32} : Run 149 436 L (.int z :: .int x :: S) h = if x = z then Run 149 439 L S h else Run 149 489 L S h := RbrN (c := cnd .ne x z = true) (off := 53) rfl rfl cnd_ne
set_option maxRecDepth 100000 in
theorem e149_439 {L : Lo} {S : List Value} {h : Hp} {v : Nat} : Run 149 439 (some (.ref v) :: L) S h = Run 149 440 (some (.ref v) :: L) (.ref v :: S) h := Rg rfl
set_option maxRecDepth 100000 in
theorem e149_440 {L : Lo} {S : List Value} {h : Hp} {x0 x1 x2 x3 : Option Value} {v : Int32} : Run 149 440 (x0 :: x1 :: x2 :: x3 :: some (.int v) :: L) S h = Run 149 442 (x0 :: x1 :: x2 :: x3 :: some (.int v) :: L) (.int v :: S) h := Rg rfl
set_option maxRecDepth 100000 in
theorem e149_442 {L : Lo} {S : List Value} {h : Hp} : Run 149 442 L S h = Run 149 444 L (.int 7 :: S) h := Rg rfl
set_option maxRecDepth 100000 in
theorem e149_444 {L : Lo} {h : Hp} {a2 : Int32} {a1 : Int32} {a0 : Nat} : Run 149 444 L [.int a2, .int a1, .ref a0] h = (Run 126 0 [some (.ref a0), some (.int a1), some (.int a2), none] [] h).bind fun o => aft 149 444 447 L [] o := Rc (c := 126) (As := [.ref a0, .int a1, .int a2]) (S' := []) (pc' := 447) rfl
set_option maxRecDepth 100000 in
theorem e149_447 {L : Lo} {S : List Value} {h : Hp} : Run 149 447 L S h = Run 149 448 L (.int 1 :: S) h := Rg rfl
set_option maxRecDepth 100000 in
theorem e149_448 {L : Lo} {S : List Value} {h : Hp} {x z : Int32} : Run 149 448 L (.int z :: .int x :: S) h = if x < z then Run 149 489 L S h else Run 149 451 L S h := Rbr (c := cnd .lt x z = true) (off := 41) rfl rfl cnd_lt
set_option maxRecDepth 100000 in
theorem e149_451 {L : Lo} {S : List Value} {h : Hp} {v : Nat} : Run 149 451 (some (.ref v) :: L) S h = Run 149 452 (some (.ref v) :: L) (.ref v :: S) h := Rg rfl
set_option maxRecDepth 100000 in
theorem e149_452 {L : Lo} {S : List Value} {h : Hp} {x0 : Option Value} {v : Int32} : Run 149 452 (x0 :: some (.int v) :: L) S h = Run 149 453 (x0 :: some (.int v) :: L) (.int v :: S) h := Rg rfl
set_option maxRecDepth 100000 in
theorem e149_453 {L : Lo} {S : List Value} {h : Hp} : Run 149 453 L S h = Run 149 455 L (.int 7 :: S) h := Rg rfl
set_option maxRecDepth 100000 in
theorem e149_455 {L : Lo} {h : Hp} {a2 : Int32} {a1 : Int32} {a0 : Nat} : Run 149 455 L [.int a2, .int a1, .ref a0] h = (Run 126 0 [some (.ref a0), some (.int a1), some (.int a2), none] [] h).bind fun o => aft 149 455 458 L [] o := Rc (c := 126) (As := [.ref a0, .int a1, .int a2]) (S' := []) (pc' := 458) rfl
set_option maxRecDepth 100000 in
theorem e149_458 {L : Lo} {S : List Value} {h : Hp} : Run 149 458 L S h = Run 149 459 L (.int 1 :: S) h := Rg rfl
set_option maxRecDepth 100000 in
theorem e149_459 {L : Lo} {S : List Value} {h : Hp} {x z : Int32} : Run 149 459 L (.int z :: .int x :: S) h = if x < z then Run 149 489 L S h else Run 149 462 L S h := Rbr (c := cnd .lt x z = true) (off := 30) rfl rfl cnd_lt
set_option maxRecDepth 100000 in
theorem e149_462 {L : Lo} {S : List Value} {h : Hp} {v : Nat} : Run 149 462 (some (.ref v) :: L) S h = Run 149 463 (some (.ref v) :: L) (.ref v :: S) h := Rg rfl
set_option maxRecDepth 100000 in
theorem e149_463 {L : Lo} {S : List Value} {h : Hp} {x0 : Option Value} {v : Int32} : Run 149 463 (x0 :: some (.int v) :: L) S h = Run 149 464 (x0 :: some (.int v) :: L) (.int v :: S) h := Rg rfl
set_option maxRecDepth 100000 in
theorem e149_464 {L : Lo} {S : List Value} {h : Hp} : Run 149 464 L S h = Run 149 466 L (.int 7 :: S) h := Rg rfl
set_option maxRecDepth 100000 in
theorem e149_466 {L : Lo} {h : Hp} {a2 : Int32} {a1 : Int32} {a0 : Nat} : Run 149 466 L [.int a2, .int a1, .ref a0] h = (Run 126 0 [some (.ref a0), some (.int a1), some (.int a2), none] [] h).bind fun o => aft 149 466 469 L [] o := Rc (c := 126) (As := [.ref a0, .int a1, .int a2]) (S' := []) (pc' := 469) rfl
set_option maxRecDepth 100000 in
theorem e149_469 {L : Lo} {S : List Value} {h : Hp} {v : Nat} : Run 149 469 (some (.ref v) :: L) S h = Run 149 470 (some (.ref v) :: L) (.ref v :: S) h := Rg rfl
set_option maxRecDepth 100000 in
theorem e149_470 {L : Lo} {S : List Value} {h : Hp} {x0 x1 x2 x3 : Option Value} {v : Int32} : Run 149 470 (x0 :: x1 :: x2 :: x3 :: some (.int v) :: L) S h = Run 149 472 (x0 :: x1 :: x2 :: x3 :: some (.int v) :: L) (.int v :: S) h := Rg rfl
set_option maxRecDepth 100000 in
theorem e149_472 {L : Lo} {S : List Value} {h : Hp} : Run 149 472 L S h = Run 149 474 L (.int 7 :: S) h := Rg rfl
set_option maxRecDepth 100000 in
theorem e149_474 {L : Lo} {h : Hp} {a3 : Int32} {a2 : Int32} {a1 : Nat} {a0 : Int32} : Run 149 474 L [.int a3, .int a2, .ref a1, .int a0] h = (Run 126 0 [some (.ref a1), some (.int a2), some (.int a3), none] [] h).bind fun o => aft 149 474 477 L [.int a0] o := Rc (c := 126) (As := [.ref a1, .int a2, .int a3]) (S' := [.int a0]) (pc' := 477) rfl
set_option maxRecDepth 100000 in
theorem e149_477 {L : Lo} {S : List Value} {h : Hp} {x z : Int32} : Run 149 477 L (.int z :: .int x :: S) h = Run 149 478 L (.int (x + z) :: S) h := Rg rfl
set_option maxRecDepth 100000 in
theorem e149_478 {L : Lo} {S : List Value} {h : Hp} {x0 x1 x2 x3 x4 x5 : Option Value} {v : Int32} : Run 149 478 (x0 :: x1 :: x2 :: x3 :: x4 :: x5 :: some (.int v) :: L) S h = Run 149 480 (x0 :: x1 :: x2 :: x3 :: x4 :: x5 :: some (.int v) :: L) (.int v :: S) h := Rg rfl
set_option maxRecDepth 100000 in
theorem e149_480 {L : Lo} {S : List Value} {h : Hp} : Run 149 480 L S h = Run 149 481 L (.int 1 :: S) h := Rg rfl
set_option maxRecDepth 100000 in
theorem e149_481 {L : Lo} {S : List Value} {h : Hp} {x z : Int32} : Run 149 481 L (.int z :: .int x :: S) h = Run 149 482 L (.int (x + z) :: S) h := Rg rfl
set_option maxRecDepth 100000 in
theorem e149_482 {L : Lo} {S : List Value} {h : Hp} {x z : Int32} : Run 149 482 L (.int z :: .int x :: S) h = if z < x then Run 149 489 L S h else Run 149 485 L S h := Rbr (c := cnd .gt x z = true) (off := 7) rfl rfl cnd_gt
set_option maxRecDepth 100000 in
theorem e149_485 {L : Lo} {S : List Value} {h : Hp} : Run 149 485 L S h = Run 149 486 L (.int 1 :: S) h := Rg rfl
set_option maxRecDepth 100000 in
theorem e149_486 {L : Lo} {S : List Value} {h : Hp} : Run 149 486 L S h = Run 149 490 L S h := Rg rfl
set_option maxRecDepth 100000 in
theorem e149_489 {L : Lo} {S : List Value} {h : Hp} : Run 149 489 L S h = Run 149 490 L (.int 0 :: S) h := Rg rfl
set_option maxRecDepth 100000 in
theorem e149_490 {L : Lo} {h : Hp} {x : Int32} (hx : narrow .boolean (.int x) = .int x) : Run 149 490 L [.int x] h = some (.inl (some (.int x)), h) := Rd (if_pos hx)
set_option maxRecDepth 100000 in
theorem e149_491 {L : Lo} {S : List Value} {h : Hp} {x0 x1 x2 x3 x4 x5 x6 x7 x8 x9 x10 x11 x12 : Option Value} {v : Int32} : Run 149 491 (x0 :: x1 :: x2 :: x3 :: x4 :: x5 :: x6 :: x7 :: x8 :: x9 :: x10 :: x11 :: x12 :: some (.int v) :: L) S h = Run 149 493 (x0 :: x1 :: x2 :: x3 :: x4 :: x5 :: x6 :: x7 :: x8 :: x9 :: x10 :: x11 :: x12 :: some (.int v) :: L) (.int v :: S) h := Rg rfl
set_option maxRecDepth 100000 in
theorem e149_493 {L : Lo} {S : List Value} {h : Hp} {x : Int32} : Run 149 493 L (.int x :: S) h = if x = 0 then Run 149 572 L S h else Run 149 496 L S h := Rbr (c := cnd .eq x 0 = true) (off := 79) rfl rfl cnd_eq
set_option maxRecDepth 100000 in
theorem e149_496 {L : Lo} {S : List Value} {h : Hp} {v : Nat} : Run 149 496 (some (.ref v) :: L) S h = Run 149 497 (some (.ref v) :: L) (.ref v :: S) h := Rg rfl
set_option maxRecDepth 100000 in
theorem e149_497 {L : Lo} {S : List Value} {h : Hp} {x0 x1 x2 x3 : Option Value} {v : Int32} : Run 149 497 (x0 :: x1 :: x2 :: x3 :: some (.int v) :: L) S h = Run 149 499 (x0 :: x1 :: x2 :: x3 :: some (.int v) :: L) (.int v :: S) h := Rg rfl
set_option maxRecDepth 100000 in
theorem e149_499 {L : Lo} {S : List Value} {h : Hp} : Run 149 499 L S h = Run 149 501 L (.int 7 :: S) h := Rg rfl
set_option maxRecDepth 100000 in
theorem e149_501 {L : Lo} {h : Hp} {a2 : Int32} {a1 : Int32} {a0 : Nat} : Run 149 501 L [.int a2, .int a1, .ref a0] h = (Run 126 0 [some (.ref a0), some (.int a1), some (.int a2), none] [] h).bind fun o => aft 149 501 504 L [] o := Rc (c := 126) (As := [.ref a0, .int a1, .int a2]) (S' := []) (pc' := 504) rfl
set_option maxRecDepth 100000 in
theorem e149_504 {L : Lo} {S : List Value} {h : Hp} {x0 x1 x2 x3 x4 x5 x6 x7 x8 x9 x10 : Option Value} {v : Int32} : Run 149 504 (x0 :: x1 :: x2 :: x3 :: x4 :: x5 :: x6 :: x7 :: x8 :: x9 :: x10 :: some (.int v) :: L) S h = Run 149 506 (x0 :: x1 :: x2 :: x3 :: x4 :: x5 :: x6 :: x7 :: x8 :: x9 :: x10 :: some (.int v) :: L) (.int v :: S) h := Rg rfl
set_option maxRecDepth 100000 in
theorem e149_506 {L : Lo} {S : List Value} {h : Hp} {x z : Int32} : Run 149 506 L (.int z :: .int x :: S) h = if x = z then Run 149 509 L S h else Run 149 572 L S h := RbrN (c := cnd .ne x z = true) (off := 66) rfl rfl cnd_ne
set_option maxRecDepth 100000 in
theorem e149_509 {L : Lo} {S : List Value} {h : Hp} {v : Nat} : Run 149 509 (some (.ref v) :: L) S h = Run 149 510 (some (.ref v) :: L) (.ref v :: S) h := Rg rfl
set_option maxRecDepth 100000 in
theorem e149_510 {L : Lo} {S : List Value} {h : Hp} {x0 : Option Value} {v : Int32} : Run 149 510 (x0 :: some (.int v) :: L) S h = Run 149 511 (x0 :: some (.int v) :: L) (.int v :: S) h := Rg rfl
set_option maxRecDepth 100000 in
theorem e149_511 {L : Lo} {S : List Value} {h : Hp} : Run 149 511 L S h = Run 149 513 L (.int 11 :: S) h := Rg rfl
set_option maxRecDepth 100000 in
theorem e149_513 {L : Lo} {h : Hp} {a2 : Int32} {a1 : Int32} {a0 : Nat} : Run 149 513 L [.int a2, .int a1, .ref a0] h = (Run 126 0 [some (.ref a0), some (.int a1), some (.int a2), none] [] h).bind fun o => aft 149 513 516 L [] o := Rc (c := 126) (As := [.ref a0, .int a1, .int a2]) (S' := []) (pc' := 516) rfl
set_option maxRecDepth 100000 in
theorem e149_516 {L : Lo} {S : List Value} {h : Hp} {x0 x1 x2 x3 : Option Value} {v : Int32} : Run 149 516 (x0 :: x1 :: x2 :: x3 :: some (.int v) :: L) S h = Run 149 518 (x0 :: x1 :: x2 :: x3 :: some (.int v) :: L) (.int v :: S) h := Rg rfl
set_option maxRecDepth 100000 in
theorem e149_518 {L : Lo} {S : List Value} {h : Hp} {x z : Int32} : Run 149 518 L (.int z :: .int x :: S) h = if x = z then Run 149 521 L S h else Run 149 572 L S h := RbrN (c := cnd .ne x z = true) (off := 54) rfl rfl cnd_ne
set_option maxRecDepth 100000 in
theorem e149_521 {L : Lo} {S : List Value} {h : Hp} {v : Nat} : Run 149 521 (some (.ref v) :: L) S h = Run 149 522 (some (.ref v) :: L) (.ref v :: S) h := Rg rfl
set_option maxRecDepth 100000 in
theorem e149_522 {L : Lo} {S : List Value} {h : Hp} {x0 : Option Value} {v : Int32} : Run 149 522 (x0 :: some (.int v) :: L) S h = Run 149 523 (x0 :: some (.int v) :: L) (.int v :: S) h := Rg rfl
set_option maxRecDepth 100000 in
theorem e149_523 {L : Lo} {S : List Value} {h : Hp} : Run 149 523 L S h = Run 149 525 L (.int 7 :: S) h := Rg rfl
set_option maxRecDepth 100000 in
theorem e149_525 {L : Lo} {h : Hp} {a2 : Int32} {a1 : Int32} {a0 : Nat} : Run 149 525 L [.int a2, .int a1, .ref a0] h = (Run 126 0 [some (.ref a0), some (.int a1), some (.int a2), none] [] h).bind fun o => aft 149 525 528 L [] o := Rc (c := 126) (As := [.ref a0, .int a1, .int a2]) (S' := []) (pc' := 528) rfl
set_option maxRecDepth 100000 in
theorem e149_528 {L : Lo} {S : List Value} {h : Hp} {x0 x1 x2 x3 x4 x5 : Option Value} {v : Int32} : Run 149 528 (x0 :: x1 :: x2 :: x3 :: x4 :: x5 :: some (.int v) :: L) S h = Run 149 530 (x0 :: x1 :: x2 :: x3 :: x4 :: x5 :: some (.int v) :: L) (.int v :: S) h := Rg rfl
set_option maxRecDepth 100000 in
theorem e149_530 {L : Lo} {S : List Value} {h : Hp} {x0 x1 x2 x3 x4 x5 x6 : Option Value} {v : Int32} : Run 149 530 (x0 :: x1 :: x2 :: x3 :: x4 :: x5 :: x6 :: some (.int v) :: L) S h = Run 149 532 (x0 :: x1 :: x2 :: x3 :: x4 :: x5 :: x6 :: some (.int v) :: L) (.int v :: S) h := Rg rfl
set_option maxRecDepth 100000 in
theorem e149_532 {L : Lo} {S : List Value} {h : Hp} : Run 149 532 L S h = Run 149 533 L (.int 3 :: S) h := Rg rfl
set_option maxRecDepth 100000 in
theorem e149_533 {L : Lo} {S : List Value} {h : Hp} {x z : Int32} : Run 149 533 L (.int z :: .int x :: S) h = Run 149 534 L (.int (x + z) :: S) h := Rg rfl
set_option maxRecDepth 100000 in
theorem e149_534 {L : Lo} {S : List Value} {h : Hp} : Run 149 534 L S h = Run 149 535 L (.int 4 :: S) h := Rg rfl
set_option maxRecDepth 100000 in
theorem e149_535 {L : Lo} {S : List Value} {h : Hp} {x z : Int32} (hz : ¬ z = 0) : Run 149 535 L (.int z :: .int x :: S) h = Run 149 536 L (.int (x / z) :: S) h := Rg (if_neg hz)
set_option maxRecDepth 100000 in
theorem e149_536 {L : Lo} {S : List Value} {h : Hp} {x z : Int32} : Run 149 536 L (.int z :: .int x :: S) h = Run 149 537 L (.int (x - z) :: S) h := Rg rfl
set_option maxRecDepth 100000 in
theorem e149_537 {L : Lo} {S : List Value} {h : Hp} : Run 149 537 L S h = Run 149 538 L (.int 1 :: S) h := Rg rfl
set_option maxRecDepth 100000 in
theorem e149_538 {L : Lo} {S : List Value} {h : Hp} {x z : Int32} : Run 149 538 L (.int z :: .int x :: S) h = if z ≤ x then Run 149 545 L S h else Run 149 541 L S h := Rbr (c := cnd .ge x z = true) (off := 7) rfl rfl cnd_ge
set_option maxRecDepth 100000 in
theorem e149_541 {L : Lo} {S : List Value} {h : Hp} : Run 149 541 L S h = Run 149 542 L (.int 1 :: S) h := Rg rfl
set_option maxRecDepth 100000 in
theorem e149_542 {L : Lo} {S : List Value} {h : Hp} : Run 149 542 L S h = Run 149 554 L S h := Rg rfl
set_option maxRecDepth 100000 in
theorem e149_545 {L : Lo} {S : List Value} {h : Hp} {x0 x1 x2 x3 x4 x5 : Option Value} {v : Int32} : Run 149 545 (x0 :: x1 :: x2 :: x3 :: x4 :: x5 :: some (.int v) :: L) S h = Run 149 547 (x0 :: x1 :: x2 :: x3 :: x4 :: x5 :: some (.int v) :: L) (.int v :: S) h := Rg rfl
set_option maxRecDepth 100000 in
theorem e149_547 {L : Lo} {S : List Value} {h : Hp} {x0 x1 x2 x3 x4 x5 x6 : Option Value} {v : Int32} : Run 149 547 (x0 :: x1 :: x2 :: x3 :: x4 :: x5 :: x6 :: some (.int v) :: L) S h = Run 149 549 (x0 :: x1 :: x2 :: x3 :: x4 :: x5 :: x6 :: some (.int v) :: L) (.int v :: S) h := Rg rfl
set_option maxRecDepth 100000 in
theorem e149_549 {L : Lo} {S : List Value} {h : Hp} : Run 149 549 L S h = Run 149 550 L (.int 3 :: S) h := Rg rfl
set_option maxRecDepth 100000 in
theorem e149_550 {L : Lo} {S : List Value} {h : Hp} {x z : Int32} : Run 149 550 L (.int z :: .int x :: S) h = Run 149 551 L (.int (x + z) :: S) h := Rg rfl
set_option maxRecDepth 100000 in
theorem e149_551 {L : Lo} {S : List Value} {h : Hp} : Run 149 551 L S h = Run 149 552 L (.int 4 :: S) h := Rg rfl
set_option maxRecDepth 100000 in
theorem e149_552 {L : Lo} {S : List Value} {h : Hp} {x z : Int32} (hz : ¬ z = 0) : Run 149 552 L (.int z :: .int x :: S) h = Run 149 553 L (.int (x / z) :: S) h := Rg (if_neg hz)
set_option maxRecDepth 100000 in
theorem e149_553 {L : Lo} {S : List Value} {h : Hp} {x z : Int32} : Run 149 553 L (.int z :: .int x :: S) h = Run 149 554 L (.int (x - z) :: S) h := Rg rfl
set_option maxRecDepth 100000 in
theorem e149_554 {L : Lo} {S : List Value} {h : Hp} {x z : Int32} : Run 149 554 L (.int z :: .int x :: S) h = if x = z then Run 149 557 L S h else Run 149 572 L S h := RbrN (c := cnd .ne x z = true) (off := 18) rfl rfl cnd_ne
set_option maxRecDepth 100000 in
theorem e149_557 {L : Lo} {S : List Value} {h : Hp} {v : Nat} : Run 149 557 (some (.ref v) :: L) S h = Run 149 558 (some (.ref v) :: L) (.ref v :: S) h := Rg rfl
set_option maxRecDepth 100000 in
theorem e149_558 {L : Lo} {S : List Value} {h : Hp} {x0 : Option Value} {v : Int32} : Run 149 558 (x0 :: some (.int v) :: L) S h = Run 149 559 (x0 :: some (.int v) :: L) (.int v :: S) h := Rg rfl
set_option maxRecDepth 100000 in
theorem e149_559 {L : Lo} {h : Hp} {a1 : Int32} {a0 : Nat} : Run 149 559 L [.int a1, .ref a0] h = (Run 136 0 [some (.ref a0), some (.int a1), none] [] h).bind fun o => aft 149 559 562 L [] o := Rc (c := 136) (As := [.ref a0, .int a1]) (S' := []) (pc' := 562) rfl
set_option maxRecDepth 100000 in
theorem e149_562 {L : Lo} {S : List Value} {h : Hp} : Run 149 562 L S h = Run 149 565 L (.int (-902) :: S) h := Rg rfl
set_option maxRecDepth 100000 in
theorem e149_565 {L : Lo} {S : List Value} {h : Hp} {x z : Int32} : Run 149 565 L (.int z :: .int x :: S) h = if x = z then Run 149 568 L S h else Run 149 572 L S h := RbrN (c := cnd .ne x z = true) (off := 7) rfl rfl cnd_ne
set_option maxRecDepth 100000 in
theorem e149_568 {L : Lo} {S : List Value} {h : Hp} : Run 149 568 L S h = Run 149 569 L (.int 1 :: S) h := Rg rfl
set_option maxRecDepth 100000 in
theorem e149_569 {L : Lo} {S : List Value} {h : Hp} : Run 149 569 L S h = Run 149 573 L S h := Rg rfl
set_option maxRecDepth 100000 in
theorem e149_572 {L : Lo} {S : List Value} {h : Hp} : Run 149 572 L S h = Run 149 573 L (.int 0 :: S) h := Rg rfl
set_option maxRecDepth 100000 in
theorem e149_573 {L : Lo} {h : Hp} {x : Int32} (hx : narrow .boolean (.int x) = .int x) : Run 149 573 L [.int x] h = some (.inl (some (.int x)), h) := Rd (if_pos hx)
set_option maxRecDepth 100000 in
theorem e150_0 {L : Lo} {S : List Value} {h : Hp} {v : Nat} : Run 150 0 (some (.ref v) :: L) S h = Run 150 1 (some (.ref v) :: L) (.ref v :: S) h := Rg rfl
set_option maxRecDepth 100000 in
theorem e150_1 {L : Lo} {S : List Value} {h : Hp} : Run 150 1 L S h = Run 150 2 L (.int 4 :: S) h := Rg rfl
set_option maxRecDepth 100000 in
theorem e150_2 {L : Lo} {h : Hp} {a1 : Int32} {a0 : Nat} : Run 150 2 L [.int a1, .ref a0] h = (Run 125 0 [some (.ref a0), some (.int a1), none] [] h).bind fun o => aft 150 2 5 L [] o := Rc (c := 125) (As := [.ref a0, .int a1]) (S' := []) (pc' := 5) rfl
set_option maxRecDepth 100000 in
theorem e150_5 {L : Lo} {S : List Value} {h : Hp} {x0 : Option Value} {y : Option Value} {v : Int32} : Run 150 5 (x0 :: y :: L) (.int v :: S) h = Run 150 6 (ck x0 :: some (.int v) :: L) S h := Rg rfl
set_option maxRecDepth 100000 in
theorem e150_6 {L : Lo} {S : List Value} {h : Hp} {v : Nat} : Run 150 6 (some (.ref v) :: L) S h = Run 150 7 (some (.ref v) :: L) (.ref v :: S) h := Rg rfl
set_option maxRecDepth 100000 in
theorem e150_7 {L : Lo} {S : List Value} {h : Hp} : Run 150 7 L S h = Run 150 8 L (.int 5 :: S) h := Rg rfl
set_option maxRecDepth 100000 in
theorem e150_8 {L : Lo} {h : Hp} {a1 : Int32} {a0 : Nat} : Run 150 8 L [.int a1, .ref a0] h = (Run 125 0 [some (.ref a0), some (.int a1), none] [] h).bind fun o => aft 150 8 11 L [] o := Rc (c := 125) (As := [.ref a0, .int a1]) (S' := []) (pc' := 11) rfl
set_option maxRecDepth 100000 in
theorem e150_11 {L : Lo} {S : List Value} {h : Hp} {x0 x1 : Option Value} {y : Option Value} {v : Int32} : Run 150 11 (x0 :: x1 :: y :: L) (.int v :: S) h = Run 150 12 (x0 :: ck x1 :: some (.int v) :: L) S h := Rg rfl
set_option maxRecDepth 100000 in
theorem e150_12 {L : Lo} {S : List Value} {h : Hp} : Run 150 12 L S h = Run 150 13 L (.int 0 :: S) h := Rg rfl
set_option maxRecDepth 100000 in
theorem e150_13 {L : Lo} {S : List Value} {h : Hp} {x0 x1 x2 : Option Value} {y : Option Value} {v : Int32} : Run 150 13 (x0 :: x1 :: x2 :: y :: L) (.int v :: S) h = Run 150 14 (x0 :: x1 :: ck x2 :: some (.int v) :: L) S h := Rg rfl
set_option maxRecDepth 100000 in
theorem e150_14 {L : Lo} {S : List Value} {h : Hp} : Run 150 14 L S h = Run 150 15 L (.int 0 :: S) h := Rg rfl
set_option maxRecDepth 100000 in
theorem e150_15 {L : Lo} {S : List Value} {h : Hp} {x0 x1 x2 x3 : Option Value} {y : Option Value} {v : Int32} : Run 150 15 (x0 :: x1 :: x2 :: x3 :: y :: L) (.int v :: S) h = Run 150 17 (x0 :: x1 :: x2 :: ck x3 :: some (.int v) :: L) S h := Rg rfl
set_option maxRecDepth 100000 in
theorem e150_17 {L : Lo} {S : List Value} {h : Hp} {x0 x1 x2 x3 : Option Value} {v : Int32} : Run 150 17 (x0 :: x1 :: x2 :: x3 :: some (.int v) :: L) S h = Run 150 19 (x0 :: x1 :: x2 :: x3 :: some (.int v) :: L) (.int v :: S) h := Rg rfl
set_option maxRecDepth 100000 in
theorem e150_19 {L : Lo} {S : List Value} {h : Hp} {x0 x1 : Option Value} {v : Int32} : Run 150 19 (x0 :: x1 :: some (.int v) :: L) S h = Run 150 20 (x0 :: x1 :: some (.int v) :: L) (.int v :: S) h := Rg rfl
set_option maxRecDepth 100000 in
theorem e150_20 {L : Lo} {S : List Value} {h : Hp} {x z : Int32} : Run 150 20 L (.int z :: .int x :: S) h = if z ≤ x then Run 150 69 L S h else Run 150 23 L S h := Rbr (c := cnd .ge x z = true) (off := 49) rfl rfl cnd_ge
set_option maxRecDepth 100000 in
theorem e150_23 {L : Lo} {S : List Value} {h : Hp} {x0 x1 x2 : Option Value} {v : Int32} : Run 150 23 (x0 :: x1 :: x2 :: some (.int v) :: L) S h = Run 150 24 (x0 :: x1 :: x2 :: some (.int v) :: L) (.int v :: S) h := Rg rfl
set_option maxRecDepth 100000 in
theorem e150_24 {L : Lo} {S : List Value} {h : Hp} {v : Nat} : Run 150 24 (some (.ref v) :: L) S h = Run 150 25 (some (.ref v) :: L) (.ref v :: S) h := Rg rfl
set_option maxRecDepth 100000 in
theorem e150_25 {L : Lo} {S : List Value} {h : Hp} {x0 x1 x2 x3 : Option Value} {v : Int32} : Run 150 25 (x0 :: x1 :: x2 :: x3 :: some (.int v) :: L) S h = Run 150 27 (x0 :: x1 :: x2 :: x3 :: some (.int v) :: L) (.int v :: S) h := Rg rfl
set_option maxRecDepth 100000 in
theorem e150_27 {L : Lo} {S : List Value} {h : Hp} : Run 150 27 L S h = Run 150 28 L (.int 3 :: S) h := Rg rfl
set_option maxRecDepth 100000 in
theorem e150_28 {L : Lo} {h : Hp} {a3 : Int32} {a2 : Int32} {a1 : Nat} {a0 : Int32} : Run 150 28 L [.int a3, .int a2, .ref a1, .int a0] h = (Run 126 0 [some (.ref a1), some (.int a2), some (.int a3), none] [] h).bind fun o => aft 150 28 31 L [.int a0] o := Rc (c := 126) (As := [.ref a1, .int a2, .int a3]) (S' := [.int a0]) (pc' := 31) rfl
set_option maxRecDepth 100000 in
theorem e150_31 {L : Lo} {S : List Value} {h : Hp} {x : Int32} : Run 150 31 L (.int x :: S) h = if x ≤ 0 then Run 150 60 L S h else Run 150 34 L S h := Rbr (c := cnd .le x 0 = true) (off := 29) rfl rfl cnd_le
set_option maxRecDepth 100000 in
theorem e150_34 {L : Lo} {S : List Value} {h : Hp} {v : Nat} : Run 150 34 (some (.ref v) :: L) S h = Run 150 35 (some (.ref v) :: L) (.ref v :: S) h := Rg rfl
set_option maxRecDepth 100000 in
theorem e150_35 {L : Lo} {S : List Value} {h : Hp} {x0 x1 x2 x3 : Option Value} {v : Int32} : Run 150 35 (x0 :: x1 :: x2 :: x3 :: some (.int v) :: L) S h = Run 150 37 (x0 :: x1 :: x2 :: x3 :: some (.int v) :: L) (.int v :: S) h := Rg rfl
set_option maxRecDepth 100000 in
theorem e150_37 {L : Lo} {S : List Value} {h : Hp} : Run 150 37 L S h = Run 150 38 L (.int 4 :: S) h := Rg rfl
set_option maxRecDepth 100000 in
theorem e150_38 {L : Lo} {h : Hp} {a3 : Int32} {a2 : Int32} {a1 : Nat} {a0 : Int32} : Run 150 38 L [.int a3, .int a2, .ref a1, .int a0] h = (Run 126 0 [some (.ref a1), some (.int a2), some (.int a3), none] [] h).bind fun o => aft 150 38 41 L [.int a0] o := Rc (c := 126) (As := [.ref a1, .int a2, .int a3]) (S' := [.int a0]) (pc' := 41) rfl
set_option maxRecDepth 100000 in
theorem e150_41 {L : Lo} {S : List Value} {h : Hp} {x : Int32} : Run 150 41 L (.int x :: S) h = if x = 0 then Run 150 44 L S h else Run 150 60 L S h := RbrN (c := cnd .ne x 0 = true) (off := 19) rfl rfl cnd_ne
set_option maxRecDepth 100000 in
theorem e150_44 {L : Lo} {S : List Value} {h : Hp} {v : Nat} : Run 150 44 (some (.ref v) :: L) S h = Run 150 45 (some (.ref v) :: L) (.ref v :: S) h := Rg rfl
set_option maxRecDepth 100000 in
theorem e150_45 {L : Lo} {S : List Value} {h : Hp} {x0 x1 x2 x3 : Option Value} {v : Int32} : Run 150 45 (x0 :: x1 :: x2 :: x3 :: some (.int v) :: L) S h = Run 150 47 (x0 :: x1 :: x2 :: x3 :: some (.int v) :: L) (.int v :: S) h := Rg rfl
set_option maxRecDepth 100000 in
theorem e150_47 {L : Lo} {S : List Value} {h : Hp} : Run 150 47 L S h = Run 150 49 L (.int 11 :: S) h := Rg rfl
set_option maxRecDepth 100000 in
theorem e150_49 {L : Lo} {h : Hp} {a3 : Int32} {a2 : Int32} {a1 : Nat} {a0 : Int32} : Run 150 49 L [.int a3, .int a2, .ref a1, .int a0] h = (Run 126 0 [some (.ref a1), some (.int a2), some (.int a3), none] [] h).bind fun o => aft 150 49 52 L [.int a0] o := Rc (c := 126) (As := [.ref a1, .int a2, .int a3]) (S' := [.int a0]) (pc' := 52) rfl
set_option maxRecDepth 100000 in
theorem e150_52 {L : Lo} {S : List Value} {h : Hp} : Run 150 52 L S h = Run 150 53 L (.int (-1) :: S) h := Rg rfl
set_option maxRecDepth 100000 in
theorem e150_53 {L : Lo} {S : List Value} {h : Hp} {x z : Int32} : Run 150 53 L (.int z :: .int x :: S) h = if x = z then Run 150 56 L S h else Run 150 60 L S h := RbrN (c := cnd .ne x z = true) (off := 7) rfl rfl cnd_ne
set_option maxRecDepth 100000 in
theorem e150_56 {L : Lo} {S : List Value} {h : Hp} : Run 150 56 L S h = Run 150 57 L (.int 1 :: S) h := Rg rfl
set_option maxRecDepth 100000 in
theorem e150_57 {L : Lo} {S : List Value} {h : Hp} : Run 150 57 L S h = Run 150 61 L S h := Rg rfl
set_option maxRecDepth 100000 in
theorem e150_60 {L : Lo} {S : List Value} {h : Hp} : Run 150 60 L S h = Run 150 61 L (.int 0 :: S) h := Rg rfl
set_option maxRecDepth 100000 in
theorem e150_61 {L : Lo} {S : List Value} {h : Hp} {x z : Int32} : Run 150 61 L (.int z :: .int x :: S) h = Run 150 62 L (.int (x + z) :: S) h := Rg rfl
set_option maxRecDepth 100000 in
theorem e150_62 {L : Lo} {S : List Value} {h : Hp} {x0 x1 x2 : Option Value} {y : Option Value} {v : Int32} : Run 150 62 (x0 :: x1 :: x2 :: y :: L) (.int v :: S) h = Run 150 63 (x0 :: x1 :: ck x2 :: some (.int v) :: L) S h := Rg rfl
set_option maxRecDepth 100000 in
theorem e150_63 {L : Lo} {S : List Value} {h : Hp} {x0 x1 x2 x3 : Option Value} {v : Int32} : Run 150 63 (x0 :: x1 :: x2 :: x3 :: some (.int v) :: L) S h = Run 150 66 (x0 :: x1 :: x2 :: x3 :: some (.int (v + 1)) :: L) S h := Rg rfl
set_option maxRecDepth 100000 in
theorem e150_66 {L : Lo} {S : List Value} {h : Hp} : Run 150 66 L S h = Run 150 17 L S h := Rg rfl
set_option maxRecDepth 100000 in
theorem e150_69 {L : Lo} {S : List Value} {h : Hp} {v : Nat} : Run 150 69 (some (.ref v) :: L) S h = Run 150 70 (some (.ref v) :: L) (.ref v :: S) h := Rg rfl
set_option maxRecDepth 100000 in
theorem e150_70 {L : Lo} {h : Hp} {a0 : Nat} (hO : isO h a0 8 = true) : Run 150 70 L [.ref a0] h = (Run 94 0 [some (.ref a0)] [] h).bind fun o => aft 150 70 73 L [] o := Rcv (c := 94) (As := []) (S' := []) (pc' := 73) 8 rfl hO
set_option maxRecDepth 100000 in
theorem e150_73 {L : Lo} {S : List Value} {h : Hp} {x0 x1 x2 x3 : Option Value} {y : Option Value} {v : Int32} : Run 150 73 (x0 :: x1 :: x2 :: x3 :: y :: L) (.int v :: S) h = Run 150 75 (x0 :: x1 :: x2 :: ck x3 :: some (.int v) :: L) S h := Rg rfl
set_option maxRecDepth 100000 in
theorem e150_75 {L : Lo} {S : List Value} {h : Hp} {x0 x1 x2 x3 : Option Value} {v : Int32} : Run 150 75 (x0 :: x1 :: x2 :: x3 :: some (.int v) :: L) S h = Run 150 77 (x0 :: x1 :: x2 :: x3 :: some (.int v) :: L) (.int v :: S) h := Rg rfl
set_option maxRecDepth 100000 in
theorem e150_77 {L : Lo} {S : List Value} {h : Hp} {x : Int32} : Run 150 77 L (.int x :: S) h = if x < 0 then Run 150 110 L S h else Run 150 80 L S h := Rbr (c := cnd .lt x 0 = true) (off := 33) rfl rfl cnd_lt
set_option maxRecDepth 100000 in
theorem e150_80 {L : Lo} {S : List Value} {h : Hp} {x0 x1 x2 x3 : Option Value} {v : Int32} : Run 150 80 (x0 :: x1 :: x2 :: x3 :: some (.int v) :: L) S h = Run 150 82 (x0 :: x1 :: x2 :: x3 :: some (.int v) :: L) (.int v :: S) h := Rg rfl
set_option maxRecDepth 100000 in
theorem e150_82 {L : Lo} {S : List Value} {h : Hp} {x0 x1 x2 : Option Value} {v : Int32} : Run 150 82 (x0 :: x1 :: x2 :: some (.int v) :: L) S h = Run 150 83 (x0 :: x1 :: x2 :: some (.int v) :: L) (.int v :: S) h := Rg rfl
set_option maxRecDepth 100000 in
theorem e150_83 {L : Lo} {S : List Value} {h : Hp} {x z : Int32} : Run 150 83 L (.int z :: .int x :: S) h = if z < x then Run 150 110 L S h else Run 150 86 L S h := Rbr (c := cnd .gt x z = true) (off := 27) rfl rfl cnd_gt
set_option maxRecDepth 100000 in
theorem e150_86 {L : Lo} {S : List Value} {h : Hp} {v : Nat} : Run 150 86 (some (.ref v) :: L) S h = Run 150 87 (some (.ref v) :: L) (.ref v :: S) h := Rg rfl
set_option maxRecDepth 100000 in
theorem e150_87 {L : Lo} {S : List Value} {h : Hp} : Run 150 87 L S h = Run 150 88 L (.int 3 :: S) h := Rg rfl
set_option maxRecDepth 100000 in
theorem e150_88 {L : Lo} {h : Hp} {a1 : Int32} {a0 : Nat} : Run 150 88 L [.int a1, .ref a0] h = (Run 125 0 [some (.ref a0), some (.int a1), none] [] h).bind fun o => aft 150 88 91 L [] o := Rc (c := 125) (As := [.ref a0, .int a1]) (S' := []) (pc' := 91) rfl
set_option maxRecDepth 100000 in
theorem e150_91 {L : Lo} {S : List Value} {h : Hp} {x : Int32} : Run 150 91 L (.int x :: S) h = if x = 0 then Run 150 94 L S h else Run 150 99 L S h := RbrN (c := cnd .ne x 0 = true) (off := 8) rfl rfl cnd_ne
set_option maxRecDepth 100000 in
theorem e150_94 {L : Lo} {S : List Value} {h : Hp} {x0 x1 x2 x3 : Option Value} {v : Int32} : Run 150 94 (x0 :: x1 :: x2 :: x3 :: some (.int v) :: L) S h = Run 150 96 (x0 :: x1 :: x2 :: x3 :: some (.int v) :: L) (.int v :: S) h := Rg rfl
set_option maxRecDepth 100000 in
theorem e150_96 {L : Lo} {S : List Value} {h : Hp} {x : Int32} : Run 150 96 L (.int x :: S) h = if 0 < x then Run 150 110 L S h else Run 150 99 L S h := Rbr (c := cnd .gt x 0 = true) (off := 14) rfl rfl cnd_gt
set_option maxRecDepth 100000 in
theorem e150_99 {L : Lo} {S : List Value} {h : Hp} {v : Nat} : Run 150 99 (some (.ref v) :: L) S h = Run 150 100 (some (.ref v) :: L) (.ref v :: S) h := Rg rfl
set_option maxRecDepth 100000 in
theorem e150_100 {L : Lo} {S : List Value} {h : Hp} : Run 150 100 L S h = Run 150 101 L (.int 4 :: S) h := Rg rfl
set_option maxRecDepth 100000 in
theorem e150_101 {L : Lo} {h : Hp} {a1 : Int32} {a0 : Nat} : Run 150 101 L [.int a1, .ref a0] h = (Run 125 0 [some (.ref a0), some (.int a1), none] [] h).bind fun o => aft 150 101 104 L [] o := Rc (c := 125) (As := [.ref a0, .int a1]) (S' := []) (pc' := 104) rfl
set_option maxRecDepth 100000 in
theorem e150_104 {L : Lo} {S : List Value} {h : Hp} {x0 : Option Value} {v : Int32} : Run 150 104 (x0 :: some (.int v) :: L) S h = Run 150 105 (x0 :: some (.int v) :: L) (.int v :: S) h := Rg rfl
set_option maxRecDepth 100000 in
theorem e150_105 {L : Lo} {S : List Value} {h : Hp} : Run 150 105 L S h = Run 150 106 L (.int 1 :: S) h := Rg rfl
set_option maxRecDepth 100000 in
theorem e150_106 {L : Lo} {S : List Value} {h : Hp} {x z : Int32} : Run 150 106 L (.int z :: .int x :: S) h = Run 150 107 L (.int (x + z) :: S) h := Rg rfl
set_option maxRecDepth 100000 in
theorem e150_107 {L : Lo} {S : List Value} {h : Hp} {x z : Int32} : Run 150 107 L (.int z :: .int x :: S) h = if x = z then Run 150 112 L S h else Run 150 110 L S h := Rbr (c := cnd .eq x z = true) (off := 5) rfl rfl cnd_eq
set_option maxRecDepth 100000 in
theorem e150_110 {L : Lo} {S : List Value} {h : Hp} : Run 150 110 L S h = Run 150 111 L (.int 0 :: S) h := Rg rfl
set_option maxRecDepth 100000 in
theorem e150_111 {L : Lo} {h : Hp} {x : Int32} (hx : narrow .boolean (.int x) = .int x) : Run 150 111 L [.int x] h = some (.inl (some (.int x)), h) := Rd (if_pos hx)
set_option maxRecDepth 100000 in
theorem e150_112 {L : Lo} {S : List Value} {h : Hp} : Run 150 112 L S h = Run 150 113 L (.int 0 :: S) h := Rg rfl
set_option maxRecDepth 100000 in
theorem e150_113 {L : Lo} {S : List Value} {h : Hp} {x0 x1 x2 x3 x4 : Option Value} {y : Option Value} {v : Int32} : Run 150 113 (x0 :: x1 :: x2 :: x3 :: x4 :: y :: L) (.int v :: S) h = Run 150 115 (x0 :: x1 :: x2 :: x3 :: ck x4 :: some (.int v) :: L) S h := Rg rfl
set_option maxRecDepth 100000 in
theorem e150_115 {L : Lo} {S : List Value} {h : Hp} {x0 x1 x2 x3 x4 : Option Value} {v : Int32} : Run 150 115 (x0 :: x1 :: x2 :: x3 :: x4 :: some (.int v) :: L) S h = Run 150 117 (x0 :: x1 :: x2 :: x3 :: x4 :: some (.int v) :: L) (.int v :: S) h := Rg rfl
set_option maxRecDepth 100000 in
theorem e150_117 {L : Lo} {S : List Value} {h : Hp} {x0 x1 : Option Value} {v : Int32} : Run 150 117 (x0 :: x1 :: some (.int v) :: L) S h = Run 150 118 (x0 :: x1 :: some (.int v) :: L) (.int v :: S) h := Rg rfl
set_option maxRecDepth 100000 in
theorem e150_118 {L : Lo} {S : List Value} {h : Hp} {x z : Int32} : Run 150 118 L (.int z :: .int x :: S) h = if z ≤ x then Run 150 206 L S h else Run 150 121 L S h := Rbr (c := cnd .ge x z = true) (off := 88) rfl rfl cnd_ge
set_option maxRecDepth 100000 in
theorem e150_121 {L : Lo} {S : List Value} {h : Hp} {v : Nat} : Run 150 121 (some (.ref v) :: L) S h = Run 150 122 (some (.ref v) :: L) (.ref v :: S) h := Rg rfl
set_option maxRecDepth 100000 in
theorem e150_122 {L : Lo} {S : List Value} {h : Hp} {x0 x1 x2 x3 x4 : Option Value} {v : Int32} : Run 150 122 (x0 :: x1 :: x2 :: x3 :: x4 :: some (.int v) :: L) S h = Run 150 124 (x0 :: x1 :: x2 :: x3 :: x4 :: some (.int v) :: L) (.int v :: S) h := Rg rfl
set_option maxRecDepth 100000 in
theorem e150_124 {L : Lo} {S : List Value} {h : Hp} : Run 150 124 L S h = Run 150 126 L (.int 12 :: S) h := Rg rfl
set_option maxRecDepth 100000 in
theorem e150_126 {L : Lo} {h : Hp} {a2 : Int32} {a1 : Int32} {a0 : Nat} : Run 150 126 L [.int a2, .int a1, .ref a0] h = (Run 126 0 [some (.ref a0), some (.int a1), some (.int a2), none] [] h).bind fun o => aft 150 126 129 L [] o := Rc (c := 126) (As := [.ref a0, .int a1, .int a2]) (S' := []) (pc' := 129) rfl
set_option maxRecDepth 100000 in
theorem e150_129 {L : Lo} {S : List Value} {h : Hp} {x0 x1 x2 x3 x4 x5 : Option Value} {y : Option Value} {v : Int32} : Run 150 129 (x0 :: x1 :: x2 :: x3 :: x4 :: x5 :: y :: L) (.int v :: S) h = Run 150 131 (x0 :: x1 :: x2 :: x3 :: x4 :: ck x5 :: some (.int v) :: L) S h := Rg rfl
set_option maxRecDepth 100000 in
theorem e150_131 {L : Lo} {S : List Value} {h : Hp} {v : Nat} : Run 150 131 (some (.ref v) :: L) S h = Run 150 132 (some (.ref v) :: L) (.ref v :: S) h := Rg rfl
set_option maxRecDepth 100000 in
theorem e150_132 {L : Lo} {S : List Value} {h : Hp} {x0 x1 x2 x3 x4 : Option Value} {v : Int32} : Run 150 132 (x0 :: x1 :: x2 :: x3 :: x4 :: some (.int v) :: L) S h = Run 150 134 (x0 :: x1 :: x2 :: x3 :: x4 :: some (.int v) :: L) (.int v :: S) h := Rg rfl
set_option maxRecDepth 100000 in
theorem e150_134 {L : Lo} {S : List Value} {h : Hp} : Run 150 134 L S h = Run 150 136 L (.int 8 :: S) h := Rg rfl
set_option maxRecDepth 100000 in
theorem e150_136 {L : Lo} {h : Hp} {a2 : Int32} {a1 : Int32} {a0 : Nat} : Run 150 136 L [.int a2, .int a1, .ref a0] h = (Run 126 0 [some (.ref a0), some (.int a1), some (.int a2), none] [] h).bind fun o => aft 150 136 139 L [] o := Rc (c := 126) (As := [.ref a0, .int a1, .int a2]) (S' := []) (pc' := 139) rfl
set_option maxRecDepth 100000 in
theorem e150_139 {L : Lo} {S : List Value} {h : Hp} {x0 x1 x2 x3 x4 x5 : Option Value} {v : Int32} : Run 150 139 (x0 :: x1 :: x2 :: x3 :: x4 :: x5 :: some (.int v) :: L) S h = Run 150 141 (x0 :: x1 :: x2 :: x3 :: x4 :: x5 :: some (.int v) :: L) (.int v :: S) h := Rg rfl
set_option maxRecDepth 100000 in
theorem e150_141 {L : Lo} {S : List Value} {h : Hp} {x : Int32} : Run 150 141 L (.int x :: S) h = if x = 0 then Run 150 144 L S h else Run 150 158 L S h := RbrN (c := cnd .ne x 0 = true) (off := 17) rfl rfl cnd_ne
set_option maxRecDepth 100000 in
theorem e150_144 {L : Lo} {S : List Value} {h : Hp} {v : Nat} : Run 150 144 (some (.ref v) :: L) S h = Run 150 145 (some (.ref v) :: L) (.ref v :: S) h := Rg rfl
set_option maxRecDepth 100000 in
theorem e150_145 {L : Lo} {S : List Value} {h : Hp} {x0 x1 x2 x3 x4 : Option Value} {v : Int32} : Run 150 145 (x0 :: x1 :: x2 :: x3 :: x4 :: some (.int v) :: L) S h = Run 150 147 (x0 :: x1 :: x2 :: x3 :: x4 :: some (.int v) :: L) (.int v :: S) h := Rg rfl
set_option maxRecDepth 100000 in
theorem e150_147 {L : Lo} {S : List Value} {h : Hp} : Run 150 147 L S h = Run 150 148 L (.int 4 :: S) h := Rg rfl
set_option maxRecDepth 100000 in
theorem e150_148 {L : Lo} {h : Hp} {a3 : Int32} {a2 : Int32} {a1 : Nat} {a0 : Int32} : Run 150 148 L [.int a3, .int a2, .ref a1, .int a0] h = (Run 126 0 [some (.ref a1), some (.int a2), some (.int a3), none] [] h).bind fun o => aft 150 148 151 L [.int a0] o := Rc (c := 126) (As := [.ref a1, .int a2, .int a3]) (S' := [.int a0]) (pc' := 151) rfl
set_option maxRecDepth 100000 in
theorem e150_151 {L : Lo} {S : List Value} {h : Hp} {x : Int32} : Run 150 151 L (.int x :: S) h = if x ≤ 0 then Run 150 158 L S h else Run 150 154 L S h := Rbr (c := cnd .le x 0 = true) (off := 7) rfl rfl cnd_le
set_option maxRecDepth 100000 in
theorem e150_154 {L : Lo} {S : List Value} {h : Hp} : Run 150 154 L S h = Run 150 155 L (.int 1 :: S) h := Rg rfl
set_option maxRecDepth 100000 in
theorem e150_155 {L : Lo} {S : List Value} {h : Hp} : Run 150 155 L S h = Run 150 160 L S h := Rg rfl
set_option maxRecDepth 100000 in
theorem e150_158 {L : Lo} {S : List Value} {h : Hp} {x0 x1 x2 x3 x4 x5 : Option Value} {v : Int32} : Run 150 158 (x0 :: x1 :: x2 :: x3 :: x4 :: x5 :: some (.int v) :: L) S h = Run 150 160 (x0 :: x1 :: x2 :: x3 :: x4 :: x5 :: some (.int v) :: L) (.int v :: S) h := Rg rfl
set_option maxRecDepth 100000 in
theorem e150_160 {L : Lo} {S : List Value} {h : Hp} {x z : Int32} : Run 150 160 L (.int z :: .int x :: S) h = if x = z then Run 150 163 L S h else Run 150 198 L S h := RbrN (c := cnd .ne x z = true) (off := 38) rfl rfl cnd_ne
set_option maxRecDepth 100000 in
theorem e150_163 {L : Lo} {S : List Value} {h : Hp} {v : Nat} : Run 150 163 (some (.ref v) :: L) S h = Run 150 164 (some (.ref v) :: L) (.ref v :: S) h := Rg rfl
set_option maxRecDepth 100000 in
theorem e150_164 {L : Lo} {S : List Value} {h : Hp} {x0 x1 x2 x3 x4 : Option Value} {v : Int32} : Run 150 164 (x0 :: x1 :: x2 :: x3 :: x4 :: some (.int v) :: L) S h = Run 150 166 (x0 :: x1 :: x2 :: x3 :: x4 :: some (.int v) :: L) (.int v :: S) h := Rg rfl
set_option maxRecDepth 100000 in
theorem e150_166 {L : Lo} {S : List Value} {h : Hp} : Run 150 166 L S h = Run 150 168 L (.int 14 :: S) h := Rg rfl
set_option maxRecDepth 100000 in
theorem e150_168 {L : Lo} {h : Hp} {a2 : Int32} {a1 : Int32} {a0 : Nat} : Run 150 168 L [.int a2, .int a1, .ref a0] h = (Run 126 0 [some (.ref a0), some (.int a1), some (.int a2), none] [] h).bind fun o => aft 150 168 171 L [] o := Rc (c := 126) (As := [.ref a0, .int a1, .int a2]) (S' := []) (pc' := 171) rfl
set_option maxRecDepth 100000 in
theorem e150_171 {L : Lo} {S : List Value} {h : Hp} {x : Int32} : Run 150 171 L (.int x :: S) h = if x = 0 then Run 150 174 L S h else Run 150 198 L S h := RbrN (c := cnd .ne x 0 = true) (off := 27) rfl rfl cnd_ne
set_option maxRecDepth 100000 in
theorem e150_174 {L : Lo} {S : List Value} {h : Hp} {v : Nat} : Run 150 174 (some (.ref v) :: L) S h = Run 150 175 (some (.ref v) :: L) (.ref v :: S) h := Rg rfl
set_option maxRecDepth 100000 in
theorem e150_175 {L : Lo} {S : List Value} {h : Hp} {x0 x1 x2 x3 x4 : Option Value} {v : Int32} : Run 150 175 (x0 :: x1 :: x2 :: x3 :: x4 :: some (.int v) :: L) S h = Run 150 177 (x0 :: x1 :: x2 :: x3 :: x4 :: some (.int v) :: L) (.int v :: S) h := Rg rfl
set_option maxRecDepth 100000 in
theorem e150_177 {L : Lo} {S : List Value} {h : Hp} : Run 150 177 L S h = Run 150 179 L (.int 9 :: S) h := Rg rfl
set_option maxRecDepth 100000 in
theorem e150_179 {L : Lo} {h : Hp} {a2 : Int32} {a1 : Int32} {a0 : Nat} : Run 150 179 L [.int a2, .int a1, .ref a0] h = (Run 126 0 [some (.ref a0), some (.int a1), some (.int a2), none] [] h).bind fun o => aft 150 179 182 L [] o := Rc (c := 126) (As := [.ref a0, .int a1, .int a2]) (S' := []) (pc' := 182) rfl
set_option maxRecDepth 100000 in
theorem e150_182 {L : Lo} {S : List Value} {h : Hp} : Run 150 182 L S h = Run 150 183 L (.int 1 :: S) h := Rg rfl
set_option maxRecDepth 100000 in
theorem e150_183 {L : Lo} {S : List Value} {h : Hp} {x z : Int32} : Run 150 183 L (.int z :: .int x :: S) h = if z < x then Run 150 198 L S h else Run 150 186 L S h := Rbr (c := cnd .gt x z = true) (off := 15) rfl rfl cnd_gt
set_option maxRecDepth 100000 in
theorem e150_186 {L : Lo} {S : List Value} {h : Hp} {v : Nat} : Run 150 186 (some (.ref v) :: L) S h = Run 150 187 (some (.ref v) :: L) (.ref v :: S) h := Rg rfl
set_option maxRecDepth 100000 in
theorem e150_187 {L : Lo} {S : List Value} {h : Hp} {x0 x1 x2 x3 x4 : Option Value} {v : Int32} : Run 150 187 (x0 :: x1 :: x2 :: x3 :: x4 :: some (.int v) :: L) S h = Run 150 189 (x0 :: x1 :: x2 :: x3 :: x4 :: some (.int v) :: L) (.int v :: S) h := Rg rfl
set_option maxRecDepth 100000 in
theorem e150_189 {L : Lo} {S : List Value} {h : Hp} : Run 150 189 L S h = Run 150 191 L (.int 10 :: S) h := Rg rfl
set_option maxRecDepth 100000 in
theorem e150_191 {L : Lo} {h : Hp} {a2 : Int32} {a1 : Int32} {a0 : Nat} : Run 150 191 L [.int a2, .int a1, .ref a0] h = (Run 126 0 [some (.ref a0), some (.int a1), some (.int a2), none] [] h).bind fun o => aft 150 191 194 L [] o := Rc (c := 126) (As := [.ref a0, .int a1, .int a2]) (S' := []) (pc' := 194) rfl
set_option maxRecDepth 100000 in
theorem e150_194 {L : Lo} {S : List Value} {h : Hp} : Run 150 194 L S h = Run 150 195 L (.int 1 :: S) h := Rg rfl
set_option maxRecDepth 100000 in
theorem e150_195 {L : Lo} {S : List Value} {h : Hp} {x z : Int32} : Run 150 195 L (.int z :: .int x :: S) h = if x ≤ z then Run 150 200 L S h else Run 150 198 L S h := Rbr (c := cnd .le x z = true) (off := 5) rfl rfl cnd_le
set_option maxRecDepth 100000 in
theorem e150_198 {L : Lo} {S : List Value} {h : Hp} : Run 150 198 L S h = Run 150 199 L (.int 0 :: S) h := Rg rfl
set_option maxRecDepth 100000 in
theorem e150_199 {L : Lo} {h : Hp} {x : Int32} (hx : narrow .boolean (.int x) = .int x) : Run 150 199 L [.int x] h = some (.inl (some (.int x)), h) := Rd (if_pos hx)
set_option maxRecDepth 100000 in
theorem e150_200 {L : Lo} {S : List Value} {h : Hp} {x0 x1 x2 x3 x4 : Option Value} {v : Int32} : Run 150 200 (x0 :: x1 :: x2 :: x3 :: x4 :: some (.int v) :: L) S h = Run 150 203 (x0 :: x1 :: x2 :: x3 :: x4 :: some (.int (v + 1)) :: L) S h := Rg rfl
set_option maxRecDepth 100000 in
theorem e150_203 {L : Lo} {S : List Value} {h : Hp} : Run 150 203 L S h = Run 150 115 L S h := Rg rfl
set_option maxRecDepth 100000 in
theorem e150_206 {L : Lo} {S : List Value} {h : Hp} {v : Nat} : Run 150 206 (some (.ref v) :: L) S h = Run 150 207 (some (.ref v) :: L) (.ref v :: S) h := Rg rfl
set_option maxRecDepth 100000 in
theorem e150_207 {L : Lo} {h : Hp} {a0 : Nat} : Run 150 207 L [.ref a0] h = (Run 143 0 [some (.ref a0), none] [] h).bind fun o => aft 150 207 210 L [] o := Rc (c := 143) (As := [.ref a0]) (S' := []) (pc' := 210) rfl
set_option maxRecDepth 100000 in
theorem e150_210 {L : Lo} {S : List Value} {h : Hp} {x : Int32} : Run 150 210 L (.int x :: S) h = if x < 0 then Run 150 235 L S h else Run 150 213 L S h := Rbr (c := cnd .lt x 0 = true) (off := 25) rfl rfl cnd_lt
set_option maxRecDepth 100000 in
theorem e150_213 {L : Lo} {S : List Value} {h : Hp} {v : Nat} : Run 150 213 (some (.ref v) :: L) S h = Run 150 214 (some (.ref v) :: L) (.ref v :: S) h := Rg rfl
set_option maxRecDepth 100000 in
theorem e150_214 {L : Lo} {S : List Value} {h : Hp} : Run 150 214 L S h = Run 150 215 L (.int 4 :: S) h := Rg rfl
set_option maxRecDepth 100000 in
theorem e150_215 {L : Lo} {h : Hp} {a1 : Int32} {a0 : Nat} : Run 150 215 L [.int a1, .ref a0] h = (Run 125 0 [some (.ref a0), some (.int a1), none] [] h).bind fun o => aft 150 215 218 L [] o := Rc (c := 125) (As := [.ref a0, .int a1]) (S' := []) (pc' := 218) rfl
set_option maxRecDepth 100000 in
theorem e150_218 {L : Lo} {S : List Value} {h : Hp} {x0 : Option Value} {v : Int32} : Run 150 218 (x0 :: some (.int v) :: L) S h = Run 150 219 (x0 :: some (.int v) :: L) (.int v :: S) h := Rg rfl
set_option maxRecDepth 100000 in
theorem e150_219 {L : Lo} {S : List Value} {h : Hp} {x z : Int32} : Run 150 219 L (.int z :: .int x :: S) h = if x = z then Run 150 222 L S h else Run 150 235 L S h := RbrN (c := cnd .ne x z = true) (off := 16) rfl rfl cnd_ne
set_option maxRecDepth 100000 in
theorem e150_222 {L : Lo} {S : List Value} {h : Hp} {v : Nat} : Run 150 222 (some (.ref v) :: L) S h = Run 150 223 (some (.ref v) :: L) (.ref v :: S) h := Rg rfl
set_option maxRecDepth 100000 in
theorem e150_223 {L : Lo} {h : Hp} {a0 : Nat} (hO : isO h a0 8 = true) : Run 150 223 L [.ref a0] h = (Run 94 0 [some (.ref a0)] [] h).bind fun o => aft 150 223 226 L [] o := Rcv (c := 94) (As := []) (S' := []) (pc' := 226) 8 rfl hO
set_option maxRecDepth 100000 in
theorem e150_226 {L : Lo} {S : List Value} {h : Hp} {x0 x1 x2 x3 : Option Value} {v : Int32} : Run 150 226 (x0 :: x1 :: x2 :: x3 :: some (.int v) :: L) S h = Run 150 228 (x0 :: x1 :: x2 :: x3 :: some (.int v) :: L) (.int v :: S) h := Rg rfl
set_option maxRecDepth 100000 in
theorem e150_228 {L : Lo} {S : List Value} {h : Hp} {x z : Int32} : Run 150 228 L (.int z :: .int x :: S) h = if x = z then Run 150 231 L S h else Run 150 235 L S h := RbrN (c := cnd .ne x z = true) (off := 7) rfl rfl cnd_ne
set_option maxRecDepth 100000 in
theorem e150_231 {L : Lo} {S : List Value} {h : Hp} : Run 150 231 L S h = Run 150 232 L (.int 1 :: S) h := Rg rfl
set_option maxRecDepth 100000 in
theorem e150_232 {L : Lo} {S : List Value} {h : Hp} : Run 150 232 L S h = Run 150 236 L S h := Rg rfl
set_option maxRecDepth 100000 in
theorem e150_235 {L : Lo} {S : List Value} {h : Hp} : Run 150 235 L S h = Run 150 236 L (.int 0 :: S) h := Rg rfl
set_option maxRecDepth 100000 in
theorem e150_236 {L : Lo} {h : Hp} {x : Int32} (hx : narrow .boolean (.int x) = .int x) : Run 150 236 L [.int x] h = some (.inl (some (.int x)), h) := Rd (if_pos hx)
set_option maxRecDepth 100000 in
theorem e151_0 {L : Lo} {S : List Value} {h : Hp} {v : Nat} : Run 151 0 (some (.ref v) :: L) S h = Run 151 1 (some (.ref v) :: L) (.ref v :: S) h := Rg rfl
set_option maxRecDepth 100000 in
theorem e151_1 {L : Lo} {h : Hp} {a0 : Nat} (hO : isO h a0 8 = true) : Run 151 1 L [.ref a0] h = (Run 108 0 [some (.ref a0), none, none, none, none] [] h).bind fun o => aft 151 1 4 L [] o := Rcv (c := 108) (As := []) (S' := []) (pc' := 4) 8 rfl hO
set_option maxRecDepth 100000 in
theorem e151_4 {L : Lo} {S : List Value} {h : Hp} {x0 : Option Value} {y w : Option Value} {v : Int64} : Run 151 4 (x0 :: y :: w :: L) (.long v :: S) h = Run 151 5 (ck x0 :: some (.long v) :: none :: L) S h := Rg rfl
set_option maxRecDepth 100000 in
theorem e151_5 {L : Lo} {S : List Value} {h : Hp} {v : Nat} : Run 151 5 (some (.ref v) :: L) S h = Run 151 6 (some (.ref v) :: L) (.ref v :: S) h := Rg rfl
set_option maxRecDepth 100000 in
theorem e151_6 {L : Lo} {S : List Value} {h : Hp} : Run 151 6 L S h = Run 151 7 L (.int 0 :: S) h := Rg rfl
set_option maxRecDepth 100000 in
theorem e151_7 {L : Lo} {h : Hp} {a1 : Int32} {a0 : Nat} : Run 151 7 L [.int a1, .ref a0] h = (Run 125 0 [some (.ref a0), some (.int a1), none] [] h).bind fun o => aft 151 7 10 L [] o := Rc (c := 125) (As := [.ref a0, .int a1]) (S' := []) (pc' := 10) rfl
set_option maxRecDepth 100000 in
theorem e151_10 {L : Lo} {S : List Value} {h : Hp} {v : Nat} : Run 151 10 (some (.ref v) :: L) S h = Run 151 11 (some (.ref v) :: L) (.ref v :: S) h := Rg rfl
set_option maxRecDepth 100000 in
theorem e151_11 {L : Lo} {S : List Value} {h : Hp} : Run 151 11 L S h = Run 151 12 L (.int 1 :: S) h := Rg rfl
set_option maxRecDepth 100000 in
theorem e151_12 {L : Lo} {h : Hp} {a2 : Int32} {a1 : Nat} {a0 : Int32} : Run 151 12 L [.int a2, .ref a1, .int a0] h = (Run 125 0 [some (.ref a1), some (.int a2), none] [] h).bind fun o => aft 151 12 15 L [.int a0] o := Rc (c := 125) (As := [.ref a1, .int a2]) (S' := [.int a0]) (pc' := 15) rfl
set_option maxRecDepth 100000 in
theorem e151_15 {L : Lo} {S : List Value} {h : Hp} {x z : Int32} : Run 151 15 L (.int z :: .int x :: S) h = Run 151 16 L (.int (x * z) :: S) h := Rg rfl
set_option maxRecDepth 100000 in
theorem e151_16 {L : Lo} {S : List Value} {h : Hp} {x0 x1 x2 : Option Value} {y : Option Value} {v : Int32} : Run 151 16 (x0 :: x1 :: x2 :: y :: L) (.int v :: S) h = Run 151 17 (x0 :: x1 :: ck x2 :: some (.int v) :: L) S h := Rg rfl
set_option maxRecDepth 100000 in
theorem e151_17 {L : Lo} {S : List Value} {h : Hp} {v : Nat} : Run 151 17 (some (.ref v) :: L) S h = Run 151 18 (some (.ref v) :: L) (.ref v :: S) h := Rg rfl
set_option maxRecDepth 100000 in
theorem e151_18 {L : Lo} {S : List Value} {h : Hp} : Run 151 18 L S h = Run 151 19 L (.int 5 :: S) h := Rg rfl
set_option maxRecDepth 100000 in
theorem e151_19 {L : Lo} {h : Hp} {a1 : Int32} {a0 : Nat} : Run 151 19 L [.int a1, .ref a0] h = (Run 125 0 [some (.ref a0), some (.int a1), none] [] h).bind fun o => aft 151 19 22 L [] o := Rc (c := 125) (As := [.ref a0, .int a1]) (S' := []) (pc' := 22) rfl
set_option maxRecDepth 100000 in
theorem e151_22 {L : Lo} {S : List Value} {h : Hp} {x0 x1 x2 x3 : Option Value} {y : Option Value} {v : Int32} : Run 151 22 (x0 :: x1 :: x2 :: x3 :: y :: L) (.int v :: S) h = Run 151 24 (x0 :: x1 :: x2 :: ck x3 :: some (.int v) :: L) S h := Rg rfl
set_option maxRecDepth 100000 in
theorem e151_24 {L : Lo} {S : List Value} {h : Hp} {v : Nat} : Run 151 24 (some (.ref v) :: L) S h = Run 151 25 (some (.ref v) :: L) (.ref v :: S) h := Rg rfl
set_option maxRecDepth 100000 in
theorem e151_25 {L : Lo} {S : List Value} {h : Hp} : Run 151 25 L S h = Run 151 26 L (.int 3 :: S) h := Rg rfl
set_option maxRecDepth 100000 in
theorem e151_26 {L : Lo} {S : List Value} {h : Hp} : Run 151 26 L S h = Run 151 27 L (.int 4 :: S) h := Rg rfl
set_option maxRecDepth 100000 in
theorem e151_27 {L : Lo} {h : Hp} {a2 : Int32} {a1 : Int32} {a0 : Nat} : Run 151 27 L [.int a2, .int a1, .ref a0] h = (Run 121 0 [some (.ref a0), some (.int a1), some (.int a2), none] [] h).bind fun o => aft 151 27 30 L [] o := Rc (c := 121) (As := [.ref a0, .int a1, .int a2]) (S' := []) (pc' := 30) rfl
set_option maxRecDepth 100000 in
theorem e151_30 {L : Lo} {S : List Value} {h : Hp} : Run 151 30 L S h = Run 151 33 L (.int (-901) :: S) h := Rg rfl
set_option maxRecDepth 100000 in
theorem e151_33 {L : Lo} {S : List Value} {h : Hp} {x z : Int32} : Run 151 33 L (.int z :: .int x :: S) h = if x = z then Run 151 36 L S h else Run 151 225 L S h := RbrN (c := cnd .ne x z = true) (off := 192) rfl rfl cnd_ne
set_option maxRecDepth 100000 in
theorem e151_36 {L : Lo} {S : List Value} {h : Hp} {v : Nat} : Run 151 36 (some (.ref v) :: L) S h = Run 151 37 (some (.ref v) :: L) (.ref v :: S) h := Rg rfl
set_option maxRecDepth 100000 in
theorem e151_37 {L : Lo} {S : List Value} {h : Hp} : Run 151 37 L S h = Run 151 38 L (.int 4 :: S) h := Rg rfl
set_option maxRecDepth 100000 in
theorem e151_38 {L : Lo} {S : List Value} {h : Hp} : Run 151 38 L S h = Run 151 40 L (.int 13 :: S) h := Rg rfl
set_option maxRecDepth 100000 in
theorem e151_40 {L : Lo} {h : Hp} {a2 : Int32} {a1 : Int32} {a0 : Nat} : Run 151 40 L [.int a2, .int a1, .ref a0] h = (Run 121 0 [some (.ref a0), some (.int a1), some (.int a2), none] [] h).bind fun o => aft 151 40 43 L [] o := Rc (c := 121) (As := [.ref a0, .int a1, .int a2]) (S' := []) (pc' := 43) rfl
set_option maxRecDepth 100000 in
theorem e151_43 {L : Lo} {S : List Value} {h : Hp} : Run 151 43 L S h = Run 151 46 L (.int (-901) :: S) h := Rg rfl
set_option maxRecDepth 100000 in
theorem e151_46 {L : Lo} {S : List Value} {h : Hp} {x z : Int32} : Run 151 46 L (.int z :: .int x :: S) h = if x = z then Run 151 49 L S h else Run 151 225 L S h := RbrN (c := cnd .ne x z = true) (off := 179) rfl rfl cnd_ne
set_option maxRecDepth 100000 in
theorem e151_49 {L : Lo} {S : List Value} {h : Hp} {v : Nat} : Run 151 49 (some (.ref v) :: L) S h = Run 151 50 (some (.ref v) :: L) (.ref v :: S) h := Rg rfl
set_option maxRecDepth 100000 in
theorem e151_50 {L : Lo} {S : List Value} {h : Hp} {x0 x1 x2 : Option Value} {v : Int32} : Run 151 50 (x0 :: x1 :: x2 :: some (.int v) :: L) S h = Run 151 51 (x0 :: x1 :: x2 :: some (.int v) :: L) (.int v :: S) h := Rg rfl
set_option maxRecDepth 100000 in
theorem e151_51 {L : Lo} {S : List Value} {h : Hp} : Run 151 51 L S h = Run 151 52 L (.int 1 :: S) h := Rg rfl
set_option maxRecDepth 100000 in
theorem e151_52 {L : Lo} {h : Hp} {a2 : Int32} {a1 : Int32} {a0 : Nat} : Run 151 52 L [.int a2, .int a1, .ref a0] h = (Run 122 0 [some (.ref a0), some (.int a1), some (.int a2), none] [] h).bind fun o => aft 151 52 55 L [] o := Rc (c := 122) (As := [.ref a0, .int a1, .int a2]) (S' := []) (pc' := 55) rfl
set_option maxRecDepth 100000 in
theorem e151_55 {L : Lo} {S : List Value} {h : Hp} : Run 151 55 L S h = Run 151 58 L (.int (-903) :: S) h := Rg rfl
set_option maxRecDepth 100000 in
theorem e151_58 {L : Lo} {S : List Value} {h : Hp} {x z : Int32} : Run 151 58 L (.int z :: .int x :: S) h = if x = z then Run 151 61 L S h else Run 151 225 L S h := RbrN (c := cnd .ne x z = true) (off := 167) rfl rfl cnd_ne
set_option maxRecDepth 100000 in
theorem e151_61 {L : Lo} {S : List Value} {h : Hp} {v : Nat} : Run 151 61 (some (.ref v) :: L) S h = Run 151 62 (some (.ref v) :: L) (.ref v :: S) h := Rg rfl
set_option maxRecDepth 100000 in
theorem e151_62 {L : Lo} {S : List Value} {h : Hp} : Run 151 62 L S h = Run 151 63 L (.int (-1) :: S) h := Rg rfl
set_option maxRecDepth 100000 in
theorem e151_63 {L : Lo} {S : List Value} {h : Hp} : Run 151 63 L S h = Run 151 64 L (.int 1 :: S) h := Rg rfl
set_option maxRecDepth 100000 in
theorem e151_64 {L : Lo} {h : Hp} {a2 : Int32} {a1 : Int32} {a0 : Nat} : Run 151 64 L [.int a2, .int a1, .ref a0] h = (Run 122 0 [some (.ref a0), some (.int a1), some (.int a2), none] [] h).bind fun o => aft 151 64 67 L [] o := Rc (c := 122) (As := [.ref a0, .int a1, .int a2]) (S' := []) (pc' := 67) rfl
set_option maxRecDepth 100000 in
theorem e151_67 {L : Lo} {S : List Value} {h : Hp} : Run 151 67 L S h = Run 151 70 L (.int (-903) :: S) h := Rg rfl
set_option maxRecDepth 100000 in
theorem e151_70 {L : Lo} {S : List Value} {h : Hp} {x z : Int32} : Run 151 70 L (.int z :: .int x :: S) h = if x = z then Run 151 73 L S h else Run 151 225 L S h := RbrN (c := cnd .ne x z = true) (off := 155) rfl rfl cnd_ne
set_option maxRecDepth 100000 in
theorem e151_73 {L : Lo} {S : List Value} {h : Hp} {v : Nat} : Run 151 73 (some (.ref v) :: L) S h = Run 151 74 (some (.ref v) :: L) (.ref v :: S) h := Rg rfl
set_option maxRecDepth 100000 in
theorem e151_74 {L : Lo} {S : List Value} {h : Hp} : Run 151 74 L S h = Run 151 75 L (.int (-1) :: S) h := Rg rfl
set_option maxRecDepth 100000 in
theorem e151_75 {L : Lo} {S : List Value} {h : Hp} : Run 151 75 L S h = Run 151 76 L (.int 0 :: S) h := Rg rfl
set_option maxRecDepth 100000 in
theorem e151_76 {L : Lo} {h : Hp} {a2 : Int32} {a1 : Int32} {a0 : Nat} : Run 151 76 L [.int a2, .int a1, .ref a0] h = (Run 123 0 [some (.ref a0), some (.int a1), some (.int a2), none] [] h).bind fun o => aft 151 76 79 L [] o := Rc (c := 123) (As := [.ref a0, .int a1, .int a2]) (S' := []) (pc' := 79) rfl
set_option maxRecDepth 100000 in
theorem e151_79 {L : Lo} {S : List Value} {h : Hp} : Run 151 79 L S h = Run 151 82 L (.int (-901) :: S) h := Rg rfl
set_option maxRecDepth 100000 in
theorem e151_82 {L : Lo} {S : List Value} {h : Hp} {x z : Int32} : Run 151 82 L (.int z :: .int x :: S) h = if x = z then Run 151 85 L S h else Run 151 225 L S h := RbrN (c := cnd .ne x z = true) (off := 143) rfl rfl cnd_ne
set_option maxRecDepth 100000 in
theorem e151_85 {L : Lo} {S : List Value} {h : Hp} {v : Nat} : Run 151 85 (some (.ref v) :: L) S h = Run 151 86 (some (.ref v) :: L) (.ref v :: S) h := Rg rfl
set_option maxRecDepth 100000 in
theorem e151_86 {L : Lo} {S : List Value} {h : Hp} : Run 151 86 L S h = Run 151 87 L (.int 0 :: S) h := Rg rfl
set_option maxRecDepth 100000 in
theorem e151_87 {L : Lo} {S : List Value} {h : Hp} : Run 151 87 L S h = Run 151 88 L (.int (-1) :: S) h := Rg rfl
set_option maxRecDepth 100000 in
theorem e151_88 {L : Lo} {h : Hp} {a2 : Int32} {a1 : Int32} {a0 : Nat} : Run 151 88 L [.int a2, .int a1, .ref a0] h = (Run 123 0 [some (.ref a0), some (.int a1), some (.int a2), none] [] h).bind fun o => aft 151 88 91 L [] o := Rc (c := 123) (As := [.ref a0, .int a1, .int a2]) (S' := []) (pc' := 91) rfl
set_option maxRecDepth 100000 in
theorem e151_91 {L : Lo} {S : List Value} {h : Hp} : Run 151 91 L S h = Run 151 94 L (.int (-901) :: S) h := Rg rfl
set_option maxRecDepth 100000 in
theorem e151_94 {L : Lo} {S : List Value} {h : Hp} {x z : Int32} : Run 151 94 L (.int z :: .int x :: S) h = if x = z then Run 151 97 L S h else Run 151 225 L S h := RbrN (c := cnd .ne x z = true) (off := 131) rfl rfl cnd_ne
set_option maxRecDepth 100000 in
theorem e151_97 {L : Lo} {S : List Value} {h : Hp} {v : Nat} : Run 151 97 (some (.ref v) :: L) S h = Run 151 98 (some (.ref v) :: L) (.ref v :: S) h := Rg rfl
set_option maxRecDepth 100000 in
theorem e151_98 {L : Lo} {S : List Value} {h : Hp} {x0 x1 x2 : Option Value} {v : Int32} : Run 151 98 (x0 :: x1 :: x2 :: some (.int v) :: L) S h = Run 151 99 (x0 :: x1 :: x2 :: some (.int v) :: L) (.int v :: S) h := Rg rfl
set_option maxRecDepth 100000 in
theorem e151_99 {L : Lo} {S : List Value} {h : Hp} : Run 151 99 L S h = Run 151 100 L (.int 0 :: S) h := Rg rfl
set_option maxRecDepth 100000 in
theorem e151_100 {L : Lo} {h : Hp} {a2 : Int32} {a1 : Int32} {a0 : Nat} : Run 151 100 L [.int a2, .int a1, .ref a0] h = (Run 124 0 [some (.ref a0), some (.int a1), some (.int a2), none] [] h).bind fun o => aft 151 100 103 L [] o := Rc (c := 124) (As := [.ref a0, .int a1, .int a2]) (S' := []) (pc' := 103) rfl
set_option maxRecDepth 100000 in
theorem e151_103 {L : Lo} {S : List Value} {h : Hp} : Run 151 103 L S h = Run 151 106 L (.int (-903) :: S) h := Rg rfl
set_option maxRecDepth 100000 in
theorem e151_106 {L : Lo} {S : List Value} {h : Hp} {x z : Int32} : Run 151 106 L (.int z :: .int x :: S) h = if x = z then Run 151 109 L S h else Run 151 225 L S h := RbrN (c := cnd .ne x z = true) (off := 119) rfl rfl cnd_ne
set_option maxRecDepth 100000 in
theorem e151_109 {L : Lo} {S : List Value} {h : Hp} {v : Nat} : Run 151 109 (some (.ref v) :: L) S h = Run 151 110 (some (.ref v) :: L) (.ref v :: S) h := Rg rfl
set_option maxRecDepth 100000 in
theorem e151_110 {L : Lo} {S : List Value} {h : Hp} : Run 151 110 L S h = Run 151 111 L (.int (-1) :: S) h := Rg rfl
set_option maxRecDepth 100000 in
theorem e151_111 {L : Lo} {S : List Value} {h : Hp} : Run 151 111 L S h = Run 151 112 L (.int 0 :: S) h := Rg rfl
set_option maxRecDepth 100000 in
theorem e151_112 {L : Lo} {h : Hp} {a2 : Int32} {a1 : Int32} {a0 : Nat} : Run 151 112 L [.int a2, .int a1, .ref a0] h = (Run 124 0 [some (.ref a0), some (.int a1), some (.int a2), none] [] h).bind fun o => aft 151 112 115 L [] o := Rc (c := 124) (As := [.ref a0, .int a1, .int a2]) (S' := []) (pc' := 115) rfl
set_option maxRecDepth 100000 in
theorem e151_115 {L : Lo} {S : List Value} {h : Hp} : Run 151 115 L S h = Run 151 118 L (.int (-903) :: S) h := Rg rfl
set_option maxRecDepth 100000 in
theorem e151_118 {L : Lo} {S : List Value} {h : Hp} {x z : Int32} : Run 151 118 L (.int z :: .int x :: S) h = if x = z then Run 151 121 L S h else Run 151 225 L S h := RbrN (c := cnd .ne x z = true) (off := 107) rfl rfl cnd_ne
set_option maxRecDepth 100000 in
theorem e151_121 {L : Lo} {S : List Value} {h : Hp} {v : Nat} : Run 151 121 (some (.ref v) :: L) S h = Run 151 122 (some (.ref v) :: L) (.ref v :: S) h := Rg rfl
set_option maxRecDepth 100000 in
theorem e151_122 {L : Lo} {S : List Value} {h : Hp} : Run 151 122 L S h = Run 151 123 L (.int 0 :: S) h := Rg rfl
set_option maxRecDepth 100000 in
theorem e151_123 {L : Lo} {S : List Value} {h : Hp} : Run 151 123 L S h = Run 151 126 L (.int 13020 :: S) h := Rg rfl
set_option maxRecDepth 100000 in
theorem e151_126 {L : Lo} {h : Hp} {a2 : Int32} {a1 : Int32} {a0 : Nat} : Run 151 126 L [.int a2, .int a1, .ref a0] h = (Run 124 0 [some (.ref a0), some (.int a1), some (.int a2), none] [] h).bind fun o => aft 151 126 129 L [] o := Rc (c := 124) (As := [.ref a0, .int a1, .int a2]) (S' := []) (pc' := 129) rfl
set_option maxRecDepth 100000 in
theorem e151_129 {L : Lo} {S : List Value} {h : Hp} : Run 151 129 L S h = Run 151 132 L (.int (-901) :: S) h := Rg rfl
set_option maxRecDepth 100000 in
theorem e151_132 {L : Lo} {S : List Value} {h : Hp} {x z : Int32} : Run 151 132 L (.int z :: .int x :: S) h = if x = z then Run 151 135 L S h else Run 151 225 L S h := RbrN (c := cnd .ne x z = true) (off := 93) rfl rfl cnd_ne
set_option maxRecDepth 100000 in
theorem e151_135 {L : Lo} {S : List Value} {h : Hp} {v : Nat} : Run 151 135 (some (.ref v) :: L) S h = Run 151 136 (some (.ref v) :: L) (.ref v :: S) h := Rg rfl
set_option maxRecDepth 100000 in
theorem e151_136 {L : Lo} {S : List Value} {h : Hp} : Run 151 136 L S h = Run 151 137 L (.int 0 :: S) h := Rg rfl
set_option maxRecDepth 100000 in
theorem e151_137 {L : Lo} {S : List Value} {h : Hp} : Run 151 137 L S h = Run 151 139 L (.int (749580 : Int32) :: S) h := Rg rfl
set_option maxRecDepth 100000 in
theorem e151_139 {L : Lo} {h : Hp} {a2 : Int32} {a1 : Int32} {a0 : Nat} : Run 151 139 L [.int a2, .int a1, .ref a0] h = (Run 124 0 [some (.ref a0), some (.int a1), some (.int a2), none] [] h).bind fun o => aft 151 139 142 L [] o := Rc (c := 124) (As := [.ref a0, .int a1, .int a2]) (S' := []) (pc' := 142) rfl
set_option maxRecDepth 100000 in
theorem e151_142 {L : Lo} {S : List Value} {h : Hp} : Run 151 142 L S h = Run 151 145 L (.int (-901) :: S) h := Rg rfl
set_option maxRecDepth 100000 in
theorem e151_145 {L : Lo} {S : List Value} {h : Hp} {x z : Int32} : Run 151 145 L (.int z :: .int x :: S) h = if x = z then Run 151 148 L S h else Run 151 225 L S h := RbrN (c := cnd .ne x z = true) (off := 80) rfl rfl cnd_ne
set_option maxRecDepth 100000 in
theorem e151_148 {L : Lo} {S : List Value} {h : Hp} {v : Nat} : Run 151 148 (some (.ref v) :: L) S h = Run 151 149 (some (.ref v) :: L) (.ref v :: S) h := Rg rfl
set_option maxRecDepth 100000 in
theorem e151_149 {L : Lo} {S : List Value} {h : Hp} : Run 151 149 L S h = Run 151 150 L (.int 0 :: S) h := Rg rfl
set_option maxRecDepth 100000 in
theorem e151_150 {L : Lo} {S : List Value} {h : Hp} : Run 151 150 L S h = Run 151 152 L (.int 12 :: S) h := Rg rfl
set_option maxRecDepth 100000 in
theorem e151_152 {L : Lo} {h : Hp} {a2 : Int32} {a1 : Int32} {a0 : Nat} : Run 151 152 L [.int a2, .int a1, .ref a0] h = (Run 124 0 [some (.ref a0), some (.int a1), some (.int a2), none] [] h).bind fun o => aft 151 152 155 L [] o := Rc (c := 124) (As := [.ref a0, .int a1, .int a2]) (S' := []) (pc' := 155) rfl
set_option maxRecDepth 100000 in
theorem e151_155 {L : Lo} {S : List Value} {h : Hp} : Run 151 155 L S h = Run 151 158 L (.int (-901) :: S) h := Rg rfl
set_option maxRecDepth 100000 in
theorem e151_158 {L : Lo} {S : List Value} {h : Hp} {x z : Int32} : Run 151 158 L (.int z :: .int x :: S) h = if x = z then Run 151 161 L S h else Run 151 225 L S h := RbrN (c := cnd .ne x z = true) (off := 67) rfl rfl cnd_ne
set_option maxRecDepth 100000 in
theorem e151_161 {L : Lo} {S : List Value} {h : Hp} {v : Nat} : Run 151 161 (some (.ref v) :: L) S h = Run 151 162 (some (.ref v) :: L) (.ref v :: S) h := Rg rfl
set_option maxRecDepth 100000 in
theorem e151_162 {L : Lo} {S : List Value} {h : Hp} : Run 151 162 L S h = Run 151 163 L (.int (-1) :: S) h := Rg rfl
set_option maxRecDepth 100000 in
theorem e151_163 {L : Lo} {h : Hp} {a1 : Int32} {a0 : Nat} : Run 151 163 L [.int a1, .ref a0] h = (Run 125 0 [some (.ref a0), some (.int a1), none] [] h).bind fun o => aft 151 163 166 L [] o := Rc (c := 125) (As := [.ref a0, .int a1]) (S' := []) (pc' := 166) rfl
set_option maxRecDepth 100000 in
theorem e151_166 {L : Lo} {S : List Value} {h : Hp} : Run 151 166 L S h = Run 151 169 L (.int (-901) :: S) h := Rg rfl
set_option maxRecDepth 100000 in
theorem e151_169 {L : Lo} {S : List Value} {h : Hp} {x z : Int32} : Run 151 169 L (.int z :: .int x :: S) h = if x = z then Run 151 172 L S h else Run 151 225 L S h := RbrN (c := cnd .ne x z = true) (off := 56) rfl rfl cnd_ne
set_option maxRecDepth 100000 in
theorem e151_172 {L : Lo} {S : List Value} {h : Hp} {v : Nat} : Run 151 172 (some (.ref v) :: L) S h = Run 151 173 (some (.ref v) :: L) (.ref v :: S) h := Rg rfl
set_option maxRecDepth 100000 in
theorem e151_173 {L : Lo} {S : List Value} {h : Hp} {x0 x1 x2 x3 : Option Value} {v : Int32} : Run 151 173 (x0 :: x1 :: x2 :: x3 :: some (.int v) :: L) S h = Run 151 175 (x0 :: x1 :: x2 :: x3 :: some (.int v) :: L) (.int v :: S) h := Rg rfl
set_option maxRecDepth 100000 in
theorem e151_175 {L : Lo} {S : List Value} {h : Hp} : Run 151 175 L S h = Run 151 177 L (.int 99 :: S) h := Rg rfl
set_option maxRecDepth 100000 in
theorem e151_177 {L : Lo} {h : Hp} {a2 : Int32} {a1 : Int32} {a0 : Nat} : Run 151 177 L [.int a2, .int a1, .ref a0] h = (Run 126 0 [some (.ref a0), some (.int a1), some (.int a2), none] [] h).bind fun o => aft 151 177 180 L [] o := Rc (c := 126) (As := [.ref a0, .int a1, .int a2]) (S' := []) (pc' := 180) rfl
set_option maxRecDepth 100000 in
theorem e151_180 {L : Lo} {S : List Value} {h : Hp} : Run 151 180 L S h = Run 151 183 L (.int (-903) :: S) h := Rg rfl
set_option maxRecDepth 100000 in
theorem e151_183 {L : Lo} {S : List Value} {h : Hp} {x z : Int32} : Run 151 183 L (.int z :: .int x :: S) h = if x = z then Run 151 186 L S h else Run 151 225 L S h := RbrN (c := cnd .ne x z = true) (off := 42) rfl rfl cnd_ne
set_option maxRecDepth 100000 in
theorem e151_186 {L : Lo} {S : List Value} {h : Hp} {v : Nat} : Run 151 186 (some (.ref v) :: L) S h = Run 151 187 (some (.ref v) :: L) (.ref v :: S) h := Rg rfl
set_option maxRecDepth 100000 in
theorem e151_187 {L : Lo} {S : List Value} {h : Hp} {x0 x1 x2 : Option Value} {v : Int32} : Run 151 187 (x0 :: x1 :: x2 :: some (.int v) :: L) S h = Run 151 188 (x0 :: x1 :: x2 :: some (.int v) :: L) (.int v :: S) h := Rg rfl
set_option maxRecDepth 100000 in
theorem e151_188 {L : Lo} {h : Hp} {a1 : Int32} {a0 : Nat} : Run 151 188 L [.int a1, .ref a0] h = (Run 127 0 [some (.ref a0), some (.int a1), none] [] h).bind fun o => aft 151 188 191 L [] o := Rc (c := 127) (As := [.ref a0, .int a1]) (S' := []) (pc' := 191) rfl
set_option maxRecDepth 100000 in
theorem e151_191 {L : Lo} {S : List Value} {h : Hp} : Run 151 191 L S h = Run 151 194 L (.int (-903) :: S) h := Rg rfl
set_option maxRecDepth 100000 in
theorem e151_194 {L : Lo} {S : List Value} {h : Hp} {x z : Int32} : Run 151 194 L (.int z :: .int x :: S) h = if x = z then Run 151 197 L S h else Run 151 225 L S h := RbrN (c := cnd .ne x z = true) (off := 31) rfl rfl cnd_ne
set_option maxRecDepth 100000 in
theorem e151_197 {L : Lo} {S : List Value} {h : Hp} {v : Nat} : Run 151 197 (some (.ref v) :: L) S h = Run 151 198 (some (.ref v) :: L) (.ref v :: S) h := Rg rfl
set_option maxRecDepth 100000 in
theorem e151_198 {L : Lo} {S : List Value} {h : Hp} {x0 x1 x2 : Option Value} {v : Int32} : Run 151 198 (x0 :: x1 :: x2 :: some (.int v) :: L) S h = Run 151 199 (x0 :: x1 :: x2 :: some (.int v) :: L) (.int v :: S) h := Rg rfl
set_option maxRecDepth 100000 in
theorem e151_199 {L : Lo} {S : List Value} {h : Hp} : Run 151 199 L S h = Run 151 200 L (.int 0 :: S) h := Rg rfl
set_option maxRecDepth 100000 in
theorem e151_200 {L : Lo} {h : Hp} {a2 : Int32} {a1 : Int32} {a0 : Nat} : Run 151 200 L [.int a2, .int a1, .ref a0] h = (Run 128 0 [some (.ref a0), some (.int a1), some (.int a2), none] [] h).bind fun o => aft 151 200 203 L [] o := Rc (c := 128) (As := [.ref a0, .int a1, .int a2]) (S' := []) (pc' := 203) rfl
set_option maxRecDepth 100000 in
theorem e151_203 {L : Lo} {S : List Value} {h : Hp} : Run 151 203 L S h = Run 151 206 L (.int (-903) :: S) h := Rg rfl
set_option maxRecDepth 100000 in
theorem e151_206 {L : Lo} {S : List Value} {h : Hp} {x z : Int32} : Run 151 206 L (.int z :: .int x :: S) h = if x = z then Run 151 209 L S h else Run 151 225 L S h := RbrN (c := cnd .ne x z = true) (off := 19) rfl rfl cnd_ne
set_option maxRecDepth 100000 in
theorem e151_209 {L : Lo} {S : List Value} {h : Hp} {v : Nat} : Run 151 209 (some (.ref v) :: L) S h = Run 151 210 (some (.ref v) :: L) (.ref v :: S) h := Rg rfl
set_option maxRecDepth 100000 in
theorem e151_210 {L : Lo} {S : List Value} {h : Hp} : Run 151 210 L S h = Run 151 211 L (.int 0 :: S) h := Rg rfl
set_option maxRecDepth 100000 in
theorem e151_211 {L : Lo} {S : List Value} {h : Hp} : Run 151 211 L S h = Run 151 212 L (.int (-1) :: S) h := Rg rfl
set_option maxRecDepth 100000 in
theorem e151_212 {L : Lo} {h : Hp} {a2 : Int32} {a1 : Int32} {a0 : Nat} : Run 151 212 L [.int a2, .int a1, .ref a0] h = (Run 129 0 [some (.ref a0), some (.int a1), some (.int a2), none] [] h).bind fun o => aft 151 212 215 L [] o := Rc (c := 129) (As := [.ref a0, .int a1, .int a2]) (S' := []) (pc' := 215) rfl
set_option maxRecDepth 100000 in
theorem e151_215 {L : Lo} {S : List Value} {h : Hp} : Run 151 215 L S h = Run 151 218 L (.int (-903) :: S) h := Rg rfl
set_option maxRecDepth 100000 in
theorem e151_218 {L : Lo} {S : List Value} {h : Hp} {x z : Int32} : Run 151 218 L (.int z :: .int x :: S) h = if x = z then Run 151 221 L S h else Run 151 225 L S h := RbrN (c := cnd .ne x z = true) (off := 7) rfl rfl cnd_ne
set_option maxRecDepth 100000 in
theorem e151_221 {L : Lo} {S : List Value} {h : Hp} : Run 151 221 L S h = Run 151 222 L (.int 1 :: S) h := Rg rfl
set_option maxRecDepth 100000 in
theorem e151_222 {L : Lo} {S : List Value} {h : Hp} : Run 151 222 L S h = Run 151 226 L S h := Rg rfl
set_option maxRecDepth 100000 in
theorem e151_225 {L : Lo} {S : List Value} {h : Hp} : Run 151 225 L S h = Run 151 226 L (.int 0 :: S) h := Rg rfl
set_option maxRecDepth 100000 in
theorem e151_226 {L : Lo} {S : List Value} {h : Hp} {x0 x1 x2 x3 x4 : Option Value} {y : Option Value} {v : Int32} : Run 151 226 (x0 :: x1 :: x2 :: x3 :: x4 :: y :: L) (.int v :: S) h = Run 151 228 (x0 :: x1 :: x2 :: x3 :: ck x4 :: some (.int v) :: L) S h := Rg rfl
set_option maxRecDepth 100000 in
theorem e151_228 {L : Lo} {S : List Value} {h : Hp} {x0 x1 x2 x3 x4 : Option Value} {v : Int32} : Run 151 228 (x0 :: x1 :: x2 :: x3 :: x4 :: some (.int v) :: L) S h = Run 151 230 (x0 :: x1 :: x2 :: x3 :: x4 :: some (.int v) :: L) (.int v :: S) h := Rg rfl
set_option maxRecDepth 100000 in
theorem e151_230 {L : Lo} {S : List Value} {h : Hp} {x : Int32} : Run 151 230 L (.int x :: S) h = if x = 0 then Run 151 403 L S h else Run 151 233 L S h := Rbr (c := cnd .eq x 0 = true) (off := 173) rfl rfl cnd_eq
set_option maxRecDepth 100000 in
theorem e151_233 {L : Lo} {S : List Value} {h : Hp} {v : Nat} : Run 151 233 (some (.ref v) :: L) S h = Run 151 234 (some (.ref v) :: L) (.ref v :: S) h := Rg rfl
set_option maxRecDepth 100000 in
theorem e151_234 {L : Lo} {S : List Value} {h : Hp} {x0 x1 x2 x3 : Option Value} {v : Int32} : Run 151 234 (x0 :: x1 :: x2 :: x3 :: some (.int v) :: L) S h = Run 151 236 (x0 :: x1 :: x2 :: x3 :: some (.int v) :: L) (.int v :: S) h := Rg rfl
set_option maxRecDepth 100000 in
theorem e151_236 {L : Lo} {h : Hp} {a1 : Int32} {a0 : Nat} : Run 151 236 L [.int a1, .ref a0] h = (Run 130 0 [some (.ref a0), some (.int a1), none] [] h).bind fun o => aft 151 236 239 L [] o := Rc (c := 130) (As := [.ref a0, .int a1]) (S' := []) (pc' := 239) rfl
set_option maxRecDepth 100000 in
theorem e151_239 {L : Lo} {S : List Value} {h : Hp} : Run 151 239 L S h = Run 151 242 L (.int (-903) :: S) h := Rg rfl
set_option maxRecDepth 100000 in
theorem e151_242 {L : Lo} {S : List Value} {h : Hp} {x z : Int32} : Run 151 242 L (.int z :: .int x :: S) h = if x = z then Run 151 245 L S h else Run 151 403 L S h := RbrN (c := cnd .ne x z = true) (off := 161) rfl rfl cnd_ne
set_option maxRecDepth 100000 in
theorem e151_245 {L : Lo} {S : List Value} {h : Hp} {v : Nat} : Run 151 245 (some (.ref v) :: L) S h = Run 151 246 (some (.ref v) :: L) (.ref v :: S) h := Rg rfl
set_option maxRecDepth 100000 in
theorem e151_246 {L : Lo} {S : List Value} {h : Hp} : Run 151 246 L S h = Run 151 247 L (.int (-1) :: S) h := Rg rfl
set_option maxRecDepth 100000 in
theorem e151_247 {L : Lo} {S : List Value} {h : Hp} : Run 151 247 L S h = Run 151 248 L (.int 1 :: S) h := Rg rfl
set_option maxRecDepth 100000 in
theorem e151_248 {L : Lo} {h : Hp} {a2 : Int32} {a1 : Int32} {a0 : Nat} : Run 151 248 L [.int a2, .int a1, .ref a0] h = (Run 131 0 [some (.ref a0), some (.int a1), some (.int a2), none] [] h).bind fun o => aft 151 248 251 L [] o := Rc (c := 131) (As := [.ref a0, .int a1, .int a2]) (S' := []) (pc' := 251) rfl
set_option maxRecDepth 100000 in
theorem e151_251 {L : Lo} {S : List Value} {h : Hp} : Run 151 251 L S h = Run 151 254 L (.int (-903) :: S) h := Rg rfl
set_option maxRecDepth 100000 in
theorem e151_254 {L : Lo} {S : List Value} {h : Hp} {x z : Int32} : Run 151 254 L (.int z :: .int x :: S) h = if x = z then Run 151 257 L S h else Run 151 403 L S h := RbrN (c := cnd .ne x z = true) (off := 149) rfl rfl cnd_ne
set_option maxRecDepth 100000 in
theorem e151_257 {L : Lo} {S : List Value} {h : Hp} {v : Nat} : Run 151 257 (some (.ref v) :: L) S h = Run 151 258 (some (.ref v) :: L) (.ref v :: S) h := Rg rfl
set_option maxRecDepth 100000 in
theorem e151_258 {L : Lo} {S : List Value} {h : Hp} {x0 x1 x2 x3 : Option Value} {v : Int32} : Run 151 258 (x0 :: x1 :: x2 :: x3 :: some (.int v) :: L) S h = Run 151 260 (x0 :: x1 :: x2 :: x3 :: some (.int v) :: L) (.int v :: S) h := Rg rfl
set_option maxRecDepth 100000 in
theorem e151_260 {L : Lo} {S : List Value} {h : Hp} : Run 151 260 L S h = Run 151 261 L (.int 1 :: S) h := Rg rfl
set_option maxRecDepth 100000 in
theorem e151_261 {L : Lo} {S : List Value} {h : Hp} {x0 x1 x2 x3 : Option Value} {v : Int32} : Run 151 261 (x0 :: x1 :: x2 :: x3 :: some (.int v) :: L) S h = Run 151 263 (x0 :: x1 :: x2 :: x3 :: some (.int v) :: L) (.int v :: S) h := Rg rfl
set_option maxRecDepth 100000 in
theorem e151_263 {L : Lo} {h : Hp} {a3 : Int32} {a2 : Int32} {a1 : Int32} {a0 : Nat} : Run 151 263 L [.int a3, .int a2, .int a1, .ref a0] h = (Run 132 0 [some (.ref a0), some (.int a1), some (.int a2), some (.int a3), none] [] h).bind fun o => aft 151 263 266 L [] o := Rc (c := 132) (As := [.ref a0, .int a1, .int a2, .int a3]) (S' := []) (pc' := 266) rfl
set_option maxRecDepth 100000 in
theorem e151_266 {L : Lo} {S : List Value} {h : Hp} : Run 151 266 L S h = Run 151 269 L (.int (-903) :: S) h := Rg rfl
set_option maxRecDepth 100000 in
theorem e151_269 {L : Lo} {S : List Value} {h : Hp} {x z : Int32} : Run 151 269 L (.int z :: .int x :: S) h = if x = z then Run 151 272 L S h else Run 151 403 L S h := RbrN (c := cnd .ne x z = true) (off := 134) rfl rfl cnd_ne
set_option maxRecDepth 100000 in
theorem e151_272 {L : Lo} {S : List Value} {h : Hp} {v : Nat} : Run 151 272 (some (.ref v) :: L) S h = Run 151 273 (some (.ref v) :: L) (.ref v :: S) h := Rg rfl
set_option maxRecDepth 100000 in
theorem e151_273 {L : Lo} {S : List Value} {h : Hp} {x0 x1 x2 x3 : Option Value} {v : Int32} : Run 151 273 (x0 :: x1 :: x2 :: x3 :: some (.int v) :: L) S h = Run 151 275 (x0 :: x1 :: x2 :: x3 :: some (.int v) :: L) (.int v :: S) h := Rg rfl
set_option maxRecDepth 100000 in
theorem e151_275 {L : Lo} {S : List Value} {h : Hp} : Run 151 275 L S h = Run 151 276 L (.int 1 :: S) h := Rg rfl
set_option maxRecDepth 100000 in
theorem e151_276 {L : Lo} {S : List Value} {h : Hp} {x0 x1 x2 x3 : Option Value} {v : Int32} : Run 151 276 (x0 :: x1 :: x2 :: x3 :: some (.int v) :: L) S h = Run 151 278 (x0 :: x1 :: x2 :: x3 :: some (.int v) :: L) (.int v :: S) h := Rg rfl
set_option maxRecDepth 100000 in
theorem e151_278 {L : Lo} {S : List Value} {h : Hp} : Run 151 278 L S h = Run 151 280 L (.int 9 :: S) h := Rg rfl
set_option maxRecDepth 100000 in
theorem e151_280 {L : Lo} {h : Hp} {a4 : Int32} {a3 : Int32} {a2 : Int32} {a1 : Int32} {a0 : Nat} : Run 151 280 L [.int a4, .int a3, .int a2, .int a1, .ref a0] h = (Run 133 0 [some (.ref a0), some (.int a1), some (.int a2), some (.int a3), some (.int a4), none] [] h).bind fun o => aft 151 280 283 L [] o := Rc (c := 133) (As := [.ref a0, .int a1, .int a2, .int a3, .int a4]) (S' := []) (pc' := 283) rfl
set_option maxRecDepth 100000 in
theorem e151_283 {L : Lo} {S : List Value} {h : Hp} : Run 151 283 L S h = Run 151 286 L (.int (-903) :: S) h := Rg rfl
set_option maxRecDepth 100000 in
theorem e151_286 {L : Lo} {S : List Value} {h : Hp} {x z : Int32} : Run 151 286 L (.int z :: .int x :: S) h = if x = z then Run 151 289 L S h else Run 151 403 L S h := RbrN (c := cnd .ne x z = true) (off := 117) rfl rfl cnd_ne
set_option maxRecDepth 100000 in
theorem e151_289 {L : Lo} {S : List Value} {h : Hp} {v : Nat} : Run 151 289 (some (.ref v) :: L) S h = Run 151 290 (some (.ref v) :: L) (.ref v :: S) h := Rg rfl
set_option maxRecDepth 100000 in
theorem e151_290 {L : Lo} {S : List Value} {h : Hp} {x0 x1 x2 x3 : Option Value} {v : Int32} : Run 151 290 (x0 :: x1 :: x2 :: x3 :: some (.int v) :: L) S h = Run 151 292 (x0 :: x1 :: x2 :: x3 :: some (.int v) :: L) (.int v :: S) h := Rg rfl
set_option maxRecDepth 100000 in
theorem e151_292 {L : Lo} {S : List Value} {h : Hp} {x0 x1 x2 x3 : Option Value} {v : Int32} : Run 151 292 (x0 :: x1 :: x2 :: x3 :: some (.int v) :: L) S h = Run 151 294 (x0 :: x1 :: x2 :: x3 :: some (.int v) :: L) (.int v :: S) h := Rg rfl
set_option maxRecDepth 100000 in
theorem e151_294 {L : Lo} {h : Hp} {a2 : Int32} {a1 : Int32} {a0 : Nat} : Run 151 294 L [.int a2, .int a1, .ref a0] h = (Run 134 0 [some (.ref a0), some (.int a1), some (.int a2), none] [] h).bind fun o => aft 151 294 297 L [] o := Rc (c := 134) (As := [.ref a0, .int a1, .int a2]) (S' := []) (pc' := 297) rfl
set_option maxRecDepth 100000 in
theorem e151_297 {L : Lo} {S : List Value} {h : Hp} : Run 151 297 L S h = Run 151 300 L (.int (-903) :: S) h := Rg rfl
set_option maxRecDepth 100000 in
theorem e151_300 {L : Lo} {S : List Value} {h : Hp} {x z : Int32} : Run 151 300 L (.int z :: .int x :: S) h = if x = z then Run 151 303 L S h else Run 151 403 L S h := RbrN (c := cnd .ne x z = true) (off := 103) rfl rfl cnd_ne
set_option maxRecDepth 100000 in
theorem e151_303 {L : Lo} {S : List Value} {h : Hp} {v : Nat} : Run 151 303 (some (.ref v) :: L) S h = Run 151 304 (some (.ref v) :: L) (.ref v :: S) h := Rg rfl
set_option maxRecDepth 100000 in
theorem e151_304 {L : Lo} {S : List Value} {h : Hp} {x0 x1 x2 x3 : Option Value} {v : Int32} : Run 151 304 (x0 :: x1 :: x2 :: x3 :: some (.int v) :: L) S h = Run 151 306 (x0 :: x1 :: x2 :: x3 :: some (.int v) :: L) (.int v :: S) h := Rg rfl
set_option maxRecDepth 100000 in
theorem e151_306 {L : Lo} {h : Hp} {a1 : Int32} {a0 : Nat} : Run 151 306 L [.int a1, .ref a0] h = (Run 135 0 [some (.ref a0), some (.int a1), none] [] h).bind fun o => aft 151 306 309 L [] o := Rc (c := 135) (As := [.ref a0, .int a1]) (S' := []) (pc' := 309) rfl
set_option maxRecDepth 100000 in
theorem e151_309 {L : Lo} {S : List Value} {h : Hp} : Run 151 309 L S h = Run 151 312 L (.int (-903) :: S) h := Rg rfl
set_option maxRecDepth 100000 in
theorem e151_312 {L : Lo} {S : List Value} {h : Hp} {x z : Int32} : Run 151 312 L (.int z :: .int x :: S) h = if x = z then Run 151 315 L S h else Run 151 403 L S h := RbrN (c := cnd .ne x z = true) (off := 91) rfl rfl cnd_ne
set_option maxRecDepth 100000 in
theorem e151_315 {L : Lo} {S : List Value} {h : Hp} {v : Nat} : Run 151 315 (some (.ref v) :: L) S h = Run 151 316 (some (.ref v) :: L) (.ref v :: S) h := Rg rfl
set_option maxRecDepth 100000 in
theorem e151_316 {L : Lo} {S : List Value} {h : Hp} : Run 151 316 L S h = Run 151 317 L (.int (-1) :: S) h := Rg rfl
set_option maxRecDepth 100000 in
theorem e151_317 {L : Lo} {h : Hp} {a1 : Int32} {a0 : Nat} : Run 151 317 L [.int a1, .ref a0] h = (Run 136 0 [some (.ref a0), some (.int a1), none] [] h).bind fun o => aft 151 317 320 L [] o := Rc (c := 136) (As := [.ref a0, .int a1]) (S' := []) (pc' := 320) rfl
set_option maxRecDepth 100000 in
theorem e151_320 {L : Lo} {S : List Value} {h : Hp} : Run 151 320 L S h = Run 151 323 L (.int (-903) :: S) h := Rg rfl
set_option maxRecDepth 100000 in
theorem e151_323 {L : Lo} {S : List Value} {h : Hp} {x z : Int32} : Run 151 323 L (.int z :: .int x :: S) h = if x = z then Run 151 326 L S h else Run 151 403 L S h := RbrN (c := cnd .ne x z = true) (off := 80) rfl rfl cnd_ne
set_option maxRecDepth 100000 in
theorem e151_326 {L : Lo} {S : List Value} {h : Hp} {v : Nat} : Run 151 326 (some (.ref v) :: L) S h = Run 151 327 (some (.ref v) :: L) (.ref v :: S) h := Rg rfl
set_option maxRecDepth 100000 in
theorem e151_327 {L : Lo} {S : List Value} {h : Hp} {x0 x1 x2 x3 : Option Value} {v : Int32} : Run 151 327 (x0 :: x1 :: x2 :: x3 :: some (.int v) :: L) S h = Run 151 329 (x0 :: x1 :: x2 :: x3 :: some (.int v) :: L) (.int v :: S) h := Rg rfl
set_option maxRecDepth 100000 in
theorem e151_329 {L : Lo} {h : Hp} {a1 : Int32} {a0 : Nat} : Run 151 329 L [.int a1, .ref a0] h = (Run 137 0 [some (.ref a0), some (.int a1), none] [] h).bind fun o => aft 151 329 332 L [] o := Rc (c := 137) (As := [.ref a0, .int a1]) (S' := []) (pc' := 332) rfl
set_option maxRecDepth 100000 in
theorem e151_332 {L : Lo} {S : List Value} {h : Hp} : Run 151 332 L S h = Run 151 335 L (.int (-903) :: S) h := Rg rfl
set_option maxRecDepth 100000 in
theorem e151_335 {L : Lo} {S : List Value} {h : Hp} {x z : Int32} : Run 151 335 L (.int z :: .int x :: S) h = if x = z then Run 151 338 L S h else Run 151 403 L S h := RbrN (c := cnd .ne x z = true) (off := 68) rfl rfl cnd_ne
set_option maxRecDepth 100000 in
theorem e151_338 {L : Lo} {S : List Value} {h : Hp} {v : Nat} : Run 151 338 (some (.ref v) :: L) S h = Run 151 339 (some (.ref v) :: L) (.ref v :: S) h := Rg rfl
set_option maxRecDepth 100000 in
theorem e151_339 {L : Lo} {S : List Value} {h : Hp} {x0 x1 x2 x3 : Option Value} {v : Int32} : Run 151 339 (x0 :: x1 :: x2 :: x3 :: some (.int v) :: L) S h = Run 151 341 (x0 :: x1 :: x2 :: x3 :: some (.int v) :: L) (.int v :: S) h := Rg rfl
set_option maxRecDepth 100000 in
theorem e151_341 {L : Lo} {S : List Value} {h : Hp} : Run 151 341 L S h = Run 151 342 L (.int 0 :: S) h := Rg rfl
set_option maxRecDepth 100000 in
theorem e151_342 {L : Lo} {h : Hp} {a2 : Int32} {a1 : Int32} {a0 : Nat} : Run 151 342 L [.int a2, .int a1, .ref a0] h = (Run 138 0 [some (.ref a0), some (.int a1), some (.int a2), none] [] h).bind fun o => aft 151 342 345 L [] o := Rc (c := 138) (As := [.ref a0, .int a1, .int a2]) (S' := []) (pc' := 345) rfl
set_option maxRecDepth 100000 in
theorem e151_345 {L : Lo} {S : List Value} {h : Hp} : Run 151 345 L S h = Run 151 348 L (.int (-903) :: S) h := Rg rfl
set_option maxRecDepth 100000 in
theorem e151_348 {L : Lo} {S : List Value} {h : Hp} {x z : Int32} : Run 151 348 L (.int z :: .int x :: S) h = if x = z then Run 151 351 L S h else Run 151 403 L S h := RbrN (c := cnd .ne x z = true) (off := 55) rfl rfl cnd_ne
set_option maxRecDepth 100000 in
theorem e151_351 {L : Lo} {S : List Value} {h : Hp} {v : Nat} : Run 151 351 (some (.ref v) :: L) S h = Run 151 352 (some (.ref v) :: L) (.ref v :: S) h := Rg rfl
set_option maxRecDepth 100000 in
theorem e151_352 {L : Lo} {S : List Value} {h : Hp} {x0 x1 x2 x3 : Option Value} {v : Int32} : Run 151 352 (x0 :: x1 :: x2 :: x3 :: some (.int v) :: L) S h = Run 151 354 (x0 :: x1 :: x2 :: x3 :: some (.int v) :: L) (.int v :: S) h := Rg rfl
set_option maxRecDepth 100000 in
theorem e151_354 {L : Lo} {h : Hp} {a1 : Int32} {a0 : Nat} : Run 151 354 L [.int a1, .ref a0] h = (Run 139 0 [some (.ref a0), some (.int a1), none] [] h).bind fun o => aft 151 354 357 L [] o := Rc (c := 139) (As := [.ref a0, .int a1]) (S' := []) (pc' := 357) rfl
set_option maxRecDepth 100000 in
theorem e151_357 {L : Lo} {S : List Value} {h : Hp} : Run 151 357 L S h = Run 151 360 L (.int (-903) :: S) h := Rg rfl
set_option maxRecDepth 100000 in
theorem e151_360 {L : Lo} {S : List Value} {h : Hp} {x z : Int32} : Run 151 360 L (.int z :: .int x :: S) h = if x = z then Run 151 363 L S h else Run 151 403 L S h := RbrN (c := cnd .ne x z = true) (off := 43) rfl rfl cnd_ne
set_option maxRecDepth 100000 in
theorem e151_363 {L : Lo} {S : List Value} {h : Hp} {v : Nat} : Run 151 363 (some (.ref v) :: L) S h = Run 151 364 (some (.ref v) :: L) (.ref v :: S) h := Rg rfl
set_option maxRecDepth 100000 in
theorem e151_364 {L : Lo} {S : List Value} {h : Hp} : Run 151 364 L S h = Run 151 365 L (.int (-1) :: S) h := Rg rfl
set_option maxRecDepth 100000 in
theorem e151_365 {L : Lo} {h : Hp} {a1 : Int32} {a0 : Nat} : Run 151 365 L [.int a1, .ref a0] h = (Run 140 0 [some (.ref a0), some (.int a1), none] [] h).bind fun o => aft 151 365 368 L [] o := Rc (c := 140) (As := [.ref a0, .int a1]) (S' := []) (pc' := 368) rfl
set_option maxRecDepth 100000 in
theorem e151_368 {L : Lo} {S : List Value} {h : Hp} : Run 151 368 L S h = Run 151 371 L (.int (-903) :: S) h := Rg rfl
set_option maxRecDepth 100000 in
theorem e151_371 {L : Lo} {S : List Value} {h : Hp} {x z : Int32} : Run 151 371 L (.int z :: .int x :: S) h = if x = z then Run 151 374 L S h else Run 151 403 L S h := RbrN (c := cnd .ne x z = true) (off := 32) rfl rfl cnd_ne
set_option maxRecDepth 100000 in
theorem e151_374 {L : Lo} {S : List Value} {h : Hp} {v : Nat} : Run 151 374 (some (.ref v) :: L) S h = Run 151 375 (some (.ref v) :: L) (.ref v :: S) h := Rg rfl
set_option maxRecDepth 100000 in
theorem e151_375 {L : Lo} {S : List Value} {h : Hp} : Run 151 375 L S h = Run 151 376 L (.int (-1) :: S) h := Rg rfl
set_option maxRecDepth 100000 in
theorem e151_376 {L : Lo} {h : Hp} {a1 : Int32} {a0 : Nat} : Run 151 376 L [.int a1, .ref a0] h = (Run 141 0 [some (.ref a0), some (.int a1), none] [] h).bind fun o => aft 151 376 379 L [] o := Rc (c := 141) (As := [.ref a0, .int a1]) (S' := []) (pc' := 379) rfl
set_option maxRecDepth 100000 in
theorem e151_379 {L : Lo} {S : List Value} {h : Hp} : Run 151 379 L S h = Run 151 382 L (.double (13874508532486766592 : UInt64) :: S) h := Rg rfl
set_option maxRecDepth 100000 in
theorem e151_382 {L : Lo} {S : List Value} {h : Hp} {x z : UInt64} : Run 151 382 L (.double z :: .double x :: S) h = Run 151 383 L (.int (Op.cmpValue (FP.dcmp x z) .l) :: S) h := Rg rfl
set_option maxRecDepth 100000 in
theorem e151_383 {L : Lo} {S : List Value} {h : Hp} {x : Int32} : Run 151 383 L (.int x :: S) h = if x = 0 then Run 151 386 L S h else Run 151 403 L S h := RbrN (c := cnd .ne x 0 = true) (off := 20) rfl rfl cnd_ne
set_option maxRecDepth 100000 in
theorem e151_386 {L : Lo} {S : List Value} {h : Hp} {v : Nat} : Run 151 386 (some (.ref v) :: L) S h = Run 151 387 (some (.ref v) :: L) (.ref v :: S) h := Rg rfl
set_option maxRecDepth 100000 in
theorem e151_387 {L : Lo} {S : List Value} {h : Hp} : Run 151 387 L S h = Run 151 390 L (.int 128 :: S) h := Rg rfl
set_option maxRecDepth 100000 in
theorem e151_390 {L : Lo} {h : Hp} {a1 : Int32} {a0 : Nat} : Run 151 390 L [.int a1, .ref a0] h = (Run 142 0 [some (.ref a0), some (.int a1), none] [] h).bind fun o => aft 151 390 393 L [] o := Rc (c := 142) (As := [.ref a0, .int a1]) (S' := []) (pc' := 393) rfl
set_option maxRecDepth 100000 in
theorem e151_393 {L : Lo} {S : List Value} {h : Hp} : Run 151 393 L S h = Run 151 396 L (.int (-901) :: S) h := Rg rfl
set_option maxRecDepth 100000 in
theorem e151_396 {L : Lo} {S : List Value} {h : Hp} {x z : Int32} : Run 151 396 L (.int z :: .int x :: S) h = if x = z then Run 151 399 L S h else Run 151 403 L S h := RbrN (c := cnd .ne x z = true) (off := 7) rfl rfl cnd_ne
set_option maxRecDepth 100000 in
theorem e151_399 {L : Lo} {S : List Value} {h : Hp} : Run 151 399 L S h = Run 151 400 L (.int 1 :: S) h := Rg rfl
set_option maxRecDepth 100000 in
theorem e151_400 {L : Lo} {S : List Value} {h : Hp} : Run 151 400 L S h = Run 151 404 L S h := Rg rfl
set_option maxRecDepth 100000 in
theorem e151_403 {L : Lo} {S : List Value} {h : Hp} : Run 151 403 L S h = Run 151 404 L (.int 0 :: S) h := Rg rfl
set_option maxRecDepth 100000 in
theorem e151_404 {L : Lo} {S : List Value} {h : Hp} {x0 x1 x2 x3 x4 : Option Value} {y : Option Value} {v : Int32} : Run 151 404 (x0 :: x1 :: x2 :: x3 :: x4 :: y :: L) (.int v :: S) h = Run 151 406 (x0 :: x1 :: x2 :: x3 :: ck x4 :: some (.int v) :: L) S h := Rg rfl
set_option maxRecDepth 100000 in
theorem e151_406 {L : Lo} {S : List Value} {h : Hp} {x0 x1 x2 x3 x4 : Option Value} {v : Int32} : Run 151 406 (x0 :: x1 :: x2 :: x3 :: x4 :: some (.int v) :: L) S h = Run 151 408 (x0 :: x1 :: x2 :: x3 :: x4 :: some (.int v) :: L) (.int v :: S) h := Rg rfl
set_option maxRecDepth 100000 in
theorem e151_408 {L : Lo} {S : List Value} {h : Hp} {x : Int32} : Run 151 408 L (.int x :: S) h = if x = 0 then Run 151 424 L S h else Run 151 411 L S h := Rbr (c := cnd .eq x 0 = true) (off := 16) rfl rfl cnd_eq
set_option maxRecDepth 100000 in
theorem e151_411 {L : Lo} {S : List Value} {h : Hp} {v : Nat} : Run 151 411 (some (.ref v) :: L) S h = Run 151 412 (some (.ref v) :: L) (.ref v :: S) h := Rg rfl
set_option maxRecDepth 100000 in
theorem e151_412 {L : Lo} {h : Hp} {a0 : Nat} (hO : isO h a0 8 = true) : Run 151 412 L [.ref a0] h = (Run 108 0 [some (.ref a0), none, none, none, none] [] h).bind fun o => aft 151 412 415 L [] o := Rcv (c := 108) (As := []) (S' := []) (pc' := 415) 8 rfl hO
set_option maxRecDepth 100000 in
theorem e151_415 {L : Lo} {S : List Value} {h : Hp} {x0 : Option Value} {v : Int64} : Run 151 415 (x0 :: some (.long v) :: L) S h = Run 151 416 (x0 :: some (.long v) :: L) (.long v :: S) h := Rg rfl
set_option maxRecDepth 100000 in
theorem e151_416 {L : Lo} {S : List Value} {h : Hp} {x z : Int64} : Run 151 416 L (.long z :: .long x :: S) h = Run 151 417 L (.int (lg_cmp x z) :: S) h := Rg rfl
set_option maxRecDepth 100000 in
theorem e151_417 {L : Lo} {S : List Value} {h : Hp} {x : Int32} : Run 151 417 L (.int x :: S) h = if x = 0 then Run 151 420 L S h else Run 151 424 L S h := RbrN (c := cnd .ne x 0 = true) (off := 7) rfl rfl cnd_ne
set_option maxRecDepth 100000 in
theorem e151_420 {L : Lo} {S : List Value} {h : Hp} : Run 151 420 L S h = Run 151 421 L (.int 1 :: S) h := Rg rfl
set_option maxRecDepth 100000 in
theorem e151_421 {L : Lo} {S : List Value} {h : Hp} : Run 151 421 L S h = Run 151 425 L S h := Rg rfl
set_option maxRecDepth 100000 in
theorem e151_424 {L : Lo} {S : List Value} {h : Hp} : Run 151 424 L S h = Run 151 425 L (.int 0 :: S) h := Rg rfl
set_option maxRecDepth 100000 in
theorem e151_425 {L : Lo} {h : Hp} {x : Int32} (hx : narrow .boolean (.int x) = .int x) : Run 151 425 L [.int x] h = some (.inl (some (.int x)), h) := Rd (if_pos hx)
set_option maxRecDepth 100000 in
theorem e152_0 {L : Lo} {S : List Value} {h : Hp} : Run 152 0 L S h = Run 152 3 L (.ref h.1 :: S) (hnew h (blankO 8) 7) := Rg rfl
set_option maxRecDepth 100000 in
theorem e152_3 {L : Lo} {S : List Value} {h : Hp} {v : Nat} : Run 152 3 L (.ref v :: S) h = Run 152 4 L (.ref v :: .ref v :: S) h := Rg rfl
set_option maxRecDepth 100000 in
theorem e152_4 {L : Lo} {h : Hp} {a1 : Nat} {a0 : Nat} : Run 152 4 L [.ref a1, .ref a0] h = (Run 82 0 [some (.ref a1), none] [] h).bind fun o => aft 152 4 7 L [.ref a0] o := Rc (c := 82) (As := [.ref a1]) (S' := [.ref a0]) (pc' := 7) rfl
set_option maxRecDepth 100000 in
theorem e152_7 {L : Lo} {S : List Value} {h : Hp} {x0 : Option Value} {y : Option Value} {v : Nat} : Run 152 7 (x0 :: y :: L) (.ref v :: S) h = Run 152 8 (ck x0 :: some (.ref v) :: L) S h := Rg rfl
set_option maxRecDepth 100000 in
theorem e152_8 {L : Lo} {S : List Value} {h : Hp} {v : Nat} : Run 152 8 (some (.ref v) :: L) S h = Run 152 9 (some (.ref v) :: L) (.ref v :: S) h := Rg rfl
set_option maxRecDepth 100000 in
theorem e152_9 {L : Lo} {S : List Value} {h : Hp} : Run 152 9 L S h = Run 152 10 L (.int 0 :: S) h := Rg rfl
set_option maxRecDepth 100000 in
theorem e152_10 {L : Lo} {h : Hp} {a1 : Int32} {a0 : Nat} : Run 152 10 L [.int a1, .ref a0] h = (Run 119 0 [some (.ref a0), some (.int a1)] [] h).bind fun o => aft 152 10 13 L [] o := Rc (c := 119) (As := [.ref a0, .int a1]) (S' := []) (pc' := 13) rfl
set_option maxRecDepth 100000 in
theorem e152_13 {L : Lo} {S : List Value} {h : Hp} {x0 x1 : Option Value} {y : Option Value} {v : Int32} : Run 152 13 (x0 :: x1 :: y :: L) (.int v :: S) h = Run 152 14 (x0 :: ck x1 :: some (.int v) :: L) S h := Rg rfl
set_option maxRecDepth 100000 in
theorem e152_14 {L : Lo} {S : List Value} {h : Hp} {x0 : Option Value} {v : Nat} : Run 152 14 (x0 :: some (.ref v) :: L) S h = Run 152 15 (x0 :: some (.ref v) :: L) (.ref v :: S) h := Rg rfl
set_option maxRecDepth 100000 in
theorem e152_15 {L : Lo} {h : Hp} {a0 : Nat} : Run 152 15 L [.ref a0] h = (Run 151 0 [some (.ref a0), none, none, none, none, none] [] h).bind fun o => aft 152 15 18 L [] o := Rc (c := 151) (As := [.ref a0]) (S' := []) (pc' := 18) rfl
set_option maxRecDepth 100000 in
theorem e152_18 {L : Lo} {S : List Value} {h : Hp} {x : Int32} : Run 152 18 L (.int x :: S) h = if x = 0 then Run 152 77 L S h else Run 152 21 L S h := Rbr (c := cnd .eq x 0 = true) (off := 59) rfl rfl cnd_eq
set_option maxRecDepth 100000 in
theorem e152_21 {L : Lo} {S : List Value} {h : Hp} {x0 : Option Value} {v : Nat} : Run 152 21 (x0 :: some (.ref v) :: L) S h = Run 152 22 (x0 :: some (.ref v) :: L) (.ref v :: S) h := Rg rfl
set_option maxRecDepth 100000 in
theorem e152_22 {L : Lo} {h : Hp} {a0 : Nat} : Run 152 22 L [.ref a0] h = (Run 143 0 [some (.ref a0), none] [] h).bind fun o => aft 152 22 25 L [] o := Rc (c := 143) (As := [.ref a0]) (S' := []) (pc' := 25) rfl
set_option maxRecDepth 100000 in
theorem e152_25 {L : Lo} {S : List Value} {h : Hp} : Run 152 25 L S h = Run 152 28 L (.int (-902) :: S) h := Rg rfl
set_option maxRecDepth 100000 in
theorem e152_28 {L : Lo} {S : List Value} {h : Hp} {x z : Int32} : Run 152 28 L (.int z :: .int x :: S) h = if x = z then Run 152 31 L S h else Run 152 77 L S h := RbrN (c := cnd .ne x z = true) (off := 49) rfl rfl cnd_ne
set_option maxRecDepth 100000 in
theorem e152_31 {L : Lo} {S : List Value} {h : Hp} {x0 : Option Value} {v : Nat} : Run 152 31 (x0 :: some (.ref v) :: L) S h = Run 152 32 (x0 :: some (.ref v) :: L) (.ref v :: S) h := Rg rfl
set_option maxRecDepth 100000 in
theorem e152_32 {L : Lo} {h : Hp} {a0 : Nat} : Run 152 32 L [.ref a0] h = (Run 144 0 [some (.ref a0), none, none, none, none, none, none, none, none, none, none, none, none] [] h).bind fun o => aft 152 32 35 L [] o := Rc (c := 144) (As := [.ref a0]) (S' := []) (pc' := 35) rfl
set_option maxRecDepth 100000 in
theorem e152_35 {L : Lo} {S : List Value} {h : Hp} {x : Int32} : Run 152 35 L (.int x :: S) h = if x = 0 then Run 152 77 L S h else Run 152 38 L S h := Rbr (c := cnd .eq x 0 = true) (off := 42) rfl rfl cnd_eq
set_option maxRecDepth 100000 in
theorem e152_38 {L : Lo} {S : List Value} {h : Hp} {x0 : Option Value} {v : Nat} : Run 152 38 (x0 :: some (.ref v) :: L) S h = Run 152 39 (x0 :: some (.ref v) :: L) (.ref v :: S) h := Rg rfl
set_option maxRecDepth 100000 in
theorem e152_39 {L : Lo} {h : Hp} {a0 : Nat} (hO : isO h a0 8 = true) : Run 152 39 L [.ref a0] h = (Run 106 0 [some (.ref a0), none, none, none] [] h).bind fun o => aft 152 39 42 L [] o := Rcv (c := 106) (As := []) (S' := []) (pc' := 42) 8 rfl hO
set_option maxRecDepth 100000 in
theorem e152_42 {L : Lo} {S : List Value} {h : Hp} {x : Int32} : Run 152 42 L (.int x :: S) h = if x = 0 then Run 152 45 L S h else Run 152 77 L S h := RbrN (c := cnd .ne x 0 = true) (off := 35) rfl rfl cnd_ne
set_option maxRecDepth 100000 in
theorem e152_45 {L : Lo} {S : List Value} {h : Hp} {x0 : Option Value} {v : Nat} : Run 152 45 (x0 :: some (.ref v) :: L) S h = Run 152 46 (x0 :: some (.ref v) :: L) (.ref v :: S) h := Rg rfl
set_option maxRecDepth 100000 in
theorem e152_46 {L : Lo} {h : Hp} {a0 : Nat} : Run 152 46 L [.ref a0] h = (Run 143 0 [some (.ref a0), none] [] h).bind fun o => aft 152 46 49 L [] o := Rc (c := 143) (As := [.ref a0]) (S' := []) (pc' := 49) rfl
set_option maxRecDepth 100000 in
theorem e152_49 {L : Lo} {S : List Value} {h : Hp} {x : Int32} : Run 152 49 L (.int x :: S) h = if x = 0 then Run 152 52 L S h else Run 152 77 L S h := RbrN (c := cnd .ne x 0 = true) (off := 28) rfl rfl cnd_ne
set_option maxRecDepth 100000 in
theorem e152_52 {L : Lo} {S : List Value} {h : Hp} {x0 : Option Value} {v : Nat} : Run 152 52 (x0 :: some (.ref v) :: L) S h = Run 152 53 (x0 :: some (.ref v) :: L) (.ref v :: S) h := Rg rfl
set_option maxRecDepth 100000 in
theorem e152_53 {L : Lo} {S : List Value} {h : Hp} : Run 152 53 L S h = Run 152 54 L (.int 4 :: S) h := Rg rfl
set_option maxRecDepth 100000 in
theorem e152_54 {L : Lo} {S : List Value} {h : Hp} {x0 x1 : Option Value} {v : Int32} : Run 152 54 (x0 :: x1 :: some (.int v) :: L) S h = Run 152 55 (x0 :: x1 :: some (.int v) :: L) (.int v :: S) h := Rg rfl
set_option maxRecDepth 100000 in
theorem e152_55 {L : Lo} {S : List Value} {h : Hp} : Run 152 55 L S h = Run 152 57 L (.int 6 :: S) h := Rg rfl
set_option maxRecDepth 100000 in
theorem e152_57 {L : Lo} {h : Hp} {a3 : Int32} {a2 : Int32} {a1 : Int32} {a0 : Nat} : Run 152 57 L [.int a3, .int a2, .int a1, .ref a0] h = (Run 120 0 [some (.int a2), some (.int a3)] [] h).bind fun o => aft 152 57 60 L [.int a1, .ref a0] o := Rc (c := 120) (As := [.int a2, .int a3]) (S' := [.int a1, .ref a0]) (pc' := 60) rfl
set_option maxRecDepth 100000 in
theorem e152_60 {L : Lo} {S : List Value} {h : Hp} {x z : Int32} : Run 152 60 L (.int z :: .int x :: S) h = Run 152 61 L (.int (x + z) :: S) h := Rg rfl
set_option maxRecDepth 100000 in
theorem e152_61 {L : Lo} {S : List Value} {h : Hp} : Run 152 61 L S h = Run 152 62 L (.int 4 :: S) h := Rg rfl
set_option maxRecDepth 100000 in
theorem e152_62 {L : Lo} {S : List Value} {h : Hp} {x0 x1 : Option Value} {v : Int32} : Run 152 62 (x0 :: x1 :: some (.int v) :: L) S h = Run 152 63 (x0 :: x1 :: some (.int v) :: L) (.int v :: S) h := Rg rfl
set_option maxRecDepth 100000 in
theorem e152_63 {L : Lo} {S : List Value} {h : Hp} : Run 152 63 L S h = Run 152 64 L (.int 4 :: S) h := Rg rfl
set_option maxRecDepth 100000 in
theorem e152_64 {L : Lo} {S : List Value} {h : Hp} {x z : Int32} : Run 152 64 L (.int z :: .int x :: S) h = Run 152 65 L (.int (x >>> (z &&& 31)) :: S) h := Rg rfl
set_option maxRecDepth 100000 in
theorem e152_65 {L : Lo} {S : List Value} {h : Hp} : Run 152 65 L S h = Run 152 67 L (.int 6 :: S) h := Rg rfl
set_option maxRecDepth 100000 in
theorem e152_67 {L : Lo} {h : Hp} {a4 : Int32} {a3 : Int32} {a2 : Int32} {a1 : Int32} {a0 : Nat} : Run 152 67 L [.int a4, .int a3, .int a2, .int a1, .ref a0] h = (Run 120 0 [some (.int a3), some (.int a4)] [] h).bind fun o => aft 152 67 70 L [.int a2, .int a1, .ref a0] o := Rc (c := 120) (As := [.int a3, .int a4]) (S' := [.int a2, .int a1, .ref a0]) (pc' := 70) rfl
set_option maxRecDepth 100000 in
theorem e152_70 {L : Lo} {S : List Value} {h : Hp} {x z : Int32} : Run 152 70 L (.int z :: .int x :: S) h = Run 152 71 L (.int (x + z) :: S) h := Rg rfl
set_option maxRecDepth 100000 in
theorem e152_71 {L : Lo} {h : Hp} {a2 : Int32} {a1 : Int32} {a0 : Nat} : Run 152 71 L [.int a2, .int a1, .ref a0] h = (Run 121 0 [some (.ref a0), some (.int a1), some (.int a2), none] [] h).bind fun o => aft 152 71 74 L [] o := Rc (c := 121) (As := [.ref a0, .int a1, .int a2]) (S' := []) (pc' := 74) rfl
set_option maxRecDepth 100000 in
theorem e152_74 {L : Lo} {S : List Value} {h : Hp} {x : Int32} : Run 152 74 L (.int x :: S) h = if x = 0 then Run 152 79 L S h else Run 152 77 L S h := Rbr (c := cnd .eq x 0 = true) (off := 5) rfl rfl cnd_eq
set_option maxRecDepth 100000 in
theorem e152_77 {L : Lo} {S : List Value} {h : Hp} : Run 152 77 L S h = Run 152 78 L (.int 0 :: S) h := Rg rfl
set_option maxRecDepth 100000 in
theorem e152_78 {L : Lo} {h : Hp} {x : Int32} (hx : narrow .boolean (.int x) = .int x) : Run 152 78 L [.int x] h = some (.inl (some (.int x)), h) := Rd (if_pos hx)
set_option maxRecDepth 100000 in
theorem e152_79 {L : Lo} {S : List Value} {h : Hp} : Run 152 79 L S h = Run 152 80 L (.int 0 :: S) h := Rg rfl
set_option maxRecDepth 100000 in
theorem e152_80 {L : Lo} {S : List Value} {h : Hp} {x0 x1 x2 : Option Value} {y : Option Value} {v : Int32} : Run 152 80 (x0 :: x1 :: x2 :: y :: L) (.int v :: S) h = Run 152 81 (x0 :: x1 :: ck x2 :: some (.int v) :: L) S h := Rg rfl
set_option maxRecDepth 100000 in
theorem e152_81 {L : Lo} {S : List Value} {h : Hp} {x0 x1 x2 : Option Value} {v : Int32} : Run 152 81 (x0 :: x1 :: x2 :: some (.int v) :: L) S h = Run 152 82 (x0 :: x1 :: x2 :: some (.int v) :: L) (.int v :: S) h := Rg rfl
set_option maxRecDepth 100000 in
theorem e152_82 {L : Lo} {S : List Value} {h : Hp} : Run 152 82 L S h = Run 152 84 L (.int 64 :: S) h := Rg rfl
set_option maxRecDepth 100000 in
theorem e152_84 {L : Lo} {S : List Value} {h : Hp} {x z : Int32} : Run 152 84 L (.int z :: .int x :: S) h = if z ≤ x then Run 152 709 L S h else Run 152 87 L S h := Rbr (c := cnd .ge x z = true) (off := 625) rfl rfl cnd_ge
set_option maxRecDepth 100000 in
theorem e152_87 {L : Lo} {S : List Value} {h : Hp} {v : Nat} : Run 152 87 (some (.ref v) :: L) S h = Run 152 88 (some (.ref v) :: L) (.ref v :: S) h := Rg rfl
set_option maxRecDepth 100000 in
theorem e152_88 {L : Lo} {S : List Value} {h : Hp} : Run 152 88 L S h = Run 152 89 L (.int 1 :: S) h := Rg rfl
set_option maxRecDepth 100000 in
theorem e152_89 {L : Lo} {S : List Value} {h : Hp} : Run 152 89 L S h = Run 152 90 L (.int 2 :: S) h := Rg rfl
set_option maxRecDepth 100000 in
theorem e152_90 {L : Lo} {S : List Value} {h : Hp} {x0 x1 x2 : Option Value} {v : Int32} : Run 152 90 (x0 :: x1 :: x2 :: some (.int v) :: L) S h = Run 152 91 (x0 :: x1 :: x2 :: some (.int v) :: L) (.int v :: S) h := Rg rfl
set_option maxRecDepth 100000 in
theorem e152_91 {L : Lo} {S : List Value} {h : Hp} {x z : Int32} : Run 152 91 L (.int z :: .int x :: S) h = Run 152 92 L (.int (x * z) :: S) h := Rg rfl
set_option maxRecDepth 100000 in
theorem e152_92 {L : Lo} {S : List Value} {h : Hp} {x z : Int32} : Run 152 92 L (.int z :: .int x :: S) h = Run 152 93 L (.int (x + z) :: S) h := Rg rfl
set_option maxRecDepth 100000 in
theorem e152_93 {L : Lo} {h : Hp} {a1 : Int32} {a0 : Nat} : Run 152 93 L [.int a1, .ref a0] h = (Run 119 0 [some (.ref a0), some (.int a1)] [] h).bind fun o => aft 152 93 96 L [] o := Rc (c := 119) (As := [.ref a0, .int a1]) (S' := []) (pc' := 96) rfl
set_option maxRecDepth 100000 in
theorem e152_96 {L : Lo} {S : List Value} {h : Hp} {x0 x1 x2 x3 : Option Value} {y : Option Value} {v : Int32} : Run 152 96 (x0 :: x1 :: x2 :: x3 :: y :: L) (.int v :: S) h = Run 152 98 (x0 :: x1 :: x2 :: ck x3 :: some (.int v) :: L) S h := Rg rfl
set_option maxRecDepth 100000 in
theorem e152_98 {L : Lo} {S : List Value} {h : Hp} {v : Nat} : Run 152 98 (some (.ref v) :: L) S h = Run 152 99 (some (.ref v) :: L) (.ref v :: S) h := Rg rfl
set_option maxRecDepth 100000 in
theorem e152_99 {L : Lo} {S : List Value} {h : Hp} : Run 152 99 L S h = Run 152 100 L (.int 2 :: S) h := Rg rfl
set_option maxRecDepth 100000 in
theorem e152_100 {L : Lo} {S : List Value} {h : Hp} : Run 152 100 L S h = Run 152 101 L (.int 2 :: S) h := Rg rfl
set_option maxRecDepth 100000 in
theorem e152_101 {L : Lo} {S : List Value} {h : Hp} {x0 x1 x2 : Option Value} {v : Int32} : Run 152 101 (x0 :: x1 :: x2 :: some (.int v) :: L) S h = Run 152 102 (x0 :: x1 :: x2 :: some (.int v) :: L) (.int v :: S) h := Rg rfl
set_option maxRecDepth 100000 in
theorem e152_102 {L : Lo} {S : List Value} {h : Hp} {x z : Int32} : Run 152 102 L (.int z :: .int x :: S) h = Run 152 103 L (.int (x * z) :: S) h := Rg rfl
set_option maxRecDepth 100000 in
theorem e152_103 {L : Lo} {S : List Value} {h : Hp} {x z : Int32} : Run 152 103 L (.int z :: .int x :: S) h = Run 152 104 L (.int (x + z) :: S) h := Rg rfl
set_option maxRecDepth 100000 in
theorem e152_104 {L : Lo} {h : Hp} {a1 : Int32} {a0 : Nat} : Run 152 104 L [.int a1, .ref a0] h = (Run 119 0 [some (.ref a0), some (.int a1)] [] h).bind fun o => aft 152 104 107 L [] o := Rc (c := 119) (As := [.ref a0, .int a1]) (S' := []) (pc' := 107) rfl
set_option maxRecDepth 100000 in
theorem e152_107 {L : Lo} {S : List Value} {h : Hp} {x0 x1 x2 x3 x4 : Option Value} {y : Option Value} {v : Int32} : Run 152 107 (x0 :: x1 :: x2 :: x3 :: x4 :: y :: L) (.int v :: S) h = Run 152 109 (x0 :: x1 :: x2 :: x3 :: ck x4 :: some (.int v) :: L) S h := Rg rfl
set_option maxRecDepth 100000 in
theorem e152_109 {L : Lo} {S : List Value} {h : Hp} {x0 : Option Value} {v : Nat} : Run 152 109 (x0 :: some (.ref v) :: L) S h = Run 152 110 (x0 :: some (.ref v) :: L) (.ref v :: S) h := Rg rfl
set_option maxRecDepth 100000 in
theorem e152_110 {L : Lo} {S : List Value} {h : Hp} : Run 152 110 L S h = Run 152 111 L (.int 5 :: S) h := Rg rfl
set_option maxRecDepth 100000 in
theorem e152_111 {L : Lo} {h : Hp} {a1 : Int32} {a0 : Nat} : Run 152 111 L [.int a1, .ref a0] h = (Run 125 0 [some (.ref a0), some (.int a1), none] [] h).bind fun o => aft 152 111 114 L [] o := Rc (c := 125) (As := [.ref a0, .int a1]) (S' := []) (pc' := 114) rfl
set_option maxRecDepth 100000 in
theorem e152_114 {L : Lo} {S : List Value} {h : Hp} {x0 x1 x2 x3 x4 x5 : Option Value} {y : Option Value} {v : Int32} : Run 152 114 (x0 :: x1 :: x2 :: x3 :: x4 :: x5 :: y :: L) (.int v :: S) h = Run 152 116 (x0 :: x1 :: x2 :: x3 :: x4 :: ck x5 :: some (.int v) :: L) S h := Rg rfl
set_option maxRecDepth 100000 in
theorem e152_116 {L : Lo} {S : List Value} {h : Hp} {x0 x1 x2 : Option Value} {v : Int32} : Run 152 116 (x0 :: x1 :: x2 :: some (.int v) :: L) S h = Run 152 117 (x0 :: x1 :: x2 :: some (.int v) :: L) (.int v :: S) h := Rg rfl
set_option maxRecDepth 100000 in
theorem e152_117 {L : Lo} {S : List Value} {h : Hp} : Run 152 117 L S h = Run 152 118 L (.int 5 :: S) h := Rg rfl
set_option maxRecDepth 100000 in
theorem e152_118 {L : Lo} {S : List Value} {h : Hp} {x z : Int32} : Run 152 118 L (.int z :: .int x :: S) h = if z ≤ x then Run 152 125 L S h else Run 152 121 L S h := Rbr (c := cnd .ge x z = true) (off := 7) rfl rfl cnd_ge
set_option maxRecDepth 100000 in
theorem e152_121 {L : Lo} {S : List Value} {h : Hp} : Run 152 121 L S h = Run 152 122 L (.int 0 :: S) h := Rg rfl
set_option maxRecDepth 100000 in
theorem e152_122 {L : Lo} {S : List Value} {h : Hp} : Run 152 122 L S h = Run 152 132 L S h := Rg rfl
set_option maxRecDepth 100000 in
theorem e152_125 {L : Lo} {S : List Value} {h : Hp} {x0 x1 x2 x3 : Option Value} {v : Int32} : Run 152 125 (x0 :: x1 :: x2 :: x3 :: some (.int v) :: L) S h = Run 152 127 (x0 :: x1 :: x2 :: x3 :: some (.int v) :: L) (.int v :: S) h := Rg rfl
set_option maxRecDepth 100000 in
theorem e152_127 {L : Lo} {S : List Value} {h : Hp} : Run 152 127 L S h = Run 152 129 L (.int 16 :: S) h := Rg rfl
set_option maxRecDepth 100000 in
theorem e152_129 {L : Lo} {h : Hp} {a1 : Int32} {a0 : Int32} : Run 152 129 L [.int a1, .int a0] h = (Run 120 0 [some (.int a0), some (.int a1)] [] h).bind fun o => aft 152 129 132 L [] o := Rc (c := 120) (As := [.int a0, .int a1]) (S' := []) (pc' := 132) rfl
set_option maxRecDepth 100000 in
theorem e152_132 {L : Lo} {S : List Value} {h : Hp} {x0 x1 x2 x3 x4 x5 x6 : Option Value} {y : Option Value} {v : Int32} : Run 152 132 (x0 :: x1 :: x2 :: x3 :: x4 :: x5 :: x6 :: y :: L) (.int v :: S) h = Run 152 134 (x0 :: x1 :: x2 :: x3 :: x4 :: x5 :: ck x6 :: some (.int v) :: L) S h := Rg rfl
set_option maxRecDepth 100000 in
theorem e152_134 {L : Lo} {S : List Value} {h : Hp} {x0 x1 x2 x3 x4 x5 : Option Value} {v : Int32} : Run 152 134 (x0 :: x1 :: x2 :: x3 :: x4 :: x5 :: some (.int v) :: L) S h = Run 152 136 (x0 :: x1 :: x2 :: x3 :: x4 :: x5 :: some (.int v) :: L) (.int v :: S) h := Rg rfl
set_option maxRecDepth 100000 in
theorem e152_136 {L : Lo} {S : List Value} {h : Hp} {x : Int32} : Run 152 136 L (.int x :: S) h = if x = 0 then Run 152 139 L S h else Run 152 143 L S h := RbrN (c := cnd .ne x 0 = true) (off := 7) rfl rfl cnd_ne
set_option maxRecDepth 100000 in
theorem e152_139 {L : Lo} {S : List Value} {h : Hp} : Run 152 139 L S h = Run 152 140 L (.int 0 :: S) h := Rg rfl
set_option maxRecDepth 100000 in
theorem e152_140 {L : Lo} {S : List Value} {h : Hp} : Run 152 140 L S h = Run 152 152 L S h := Rg rfl
set_option maxRecDepth 100000 in
theorem e152_143 {L : Lo} {S : List Value} {h : Hp} {x0 x1 x2 x3 : Option Value} {v : Int32} : Run 152 143 (x0 :: x1 :: x2 :: x3 :: some (.int v) :: L) S h = Run 152 145 (x0 :: x1 :: x2 :: x3 :: some (.int v) :: L) (.int v :: S) h := Rg rfl
set_option maxRecDepth 100000 in
theorem e152_145 {L : Lo} {S : List Value} {h : Hp} : Run 152 145 L S h = Run 152 146 L (.int 5 :: S) h := Rg rfl
set_option maxRecDepth 100000 in
theorem e152_146 {L : Lo} {S : List Value} {h : Hp} {x z : Int32} : Run 152 146 L (.int z :: .int x :: S) h = Run 152 147 L (.int (x >>> (z &&& 31)) :: S) h := Rg rfl
set_option maxRecDepth 100000 in
theorem e152_147 {L : Lo} {S : List Value} {h : Hp} {x0 x1 x2 x3 x4 x5 : Option Value} {v : Int32} : Run 152 147 (x0 :: x1 :: x2 :: x3 :: x4 :: x5 :: some (.int v) :: L) S h = Run 152 149 (x0 :: x1 :: x2 :: x3 :: x4 :: x5 :: some (.int v) :: L) (.int v :: S) h := Rg rfl
set_option maxRecDepth 100000 in
theorem e152_149 {L : Lo} {h : Hp} {a1 : Int32} {a0 : Int32} : Run 152 149 L [.int a1, .int a0] h = (Run 120 0 [some (.int a0), some (.int a1)] [] h).bind fun o => aft 152 149 152 L [] o := Rc (c := 120) (As := [.int a0, .int a1]) (S' := []) (pc' := 152) rfl
set_option maxRecDepth 100000 in
theorem e152_152 {L : Lo} {S : List Value} {h : Hp} {x0 x1 x2 x3 x4 x5 x6 x7 : Option Value} {y : Option Value} {v : Int32} : Run 152 152 (x0 :: x1 :: x2 :: x3 :: x4 :: x5 :: x6 :: x7 :: y :: L) (.int v :: S) h = Run 152 154 (x0 :: x1 :: x2 :: x3 :: x4 :: x5 :: x6 :: ck x7 :: some (.int v) :: L) S h := Rg rfl
set_option maxRecDepth 100000 in
theorem e152_154 {L : Lo} {S : List Value} {h : Hp} {x0 x1 x2 x3 x4 x5 : Option Value} {v : Int32} : Run 152 154 (x0 :: x1 :: x2 :: x3 :: x4 :: x5 :: some (.int v) :: L) S h = Run 152 156 (x0 :: x1 :: x2 :: x3 :: x4 :: x5 :: some (.int v) :: L) (.int v :: S) h := Rg rfl
set_option maxRecDepth 100000 in
theorem e152_156 {L : Lo} {S : List Value} {h : Hp} {x : Int32} : Run 152 156 L (.int x :: S) h = if x = 0 then Run 152 159 L S h else Run 152 163 L S h := RbrN (c := cnd .ne x 0 = true) (off := 7) rfl rfl cnd_ne
set_option maxRecDepth 100000 in
theorem e152_159 {L : Lo} {S : List Value} {h : Hp} : Run 152 159 L S h = Run 152 160 L (.int 0 :: S) h := Rg rfl
set_option maxRecDepth 100000 in
theorem e152_160 {L : Lo} {S : List Value} {h : Hp} : Run 152 160 L S h = Run 152 173 L S h := Rg rfl
set_option maxRecDepth 100000 in
theorem e152_163 {L : Lo} {S : List Value} {h : Hp} {x0 x1 x2 x3 : Option Value} {v : Int32} : Run 152 163 (x0 :: x1 :: x2 :: x3 :: some (.int v) :: L) S h = Run 152 165 (x0 :: x1 :: x2 :: x3 :: some (.int v) :: L) (.int v :: S) h := Rg rfl
set_option maxRecDepth 100000 in
theorem e152_165 {L : Lo} {S : List Value} {h : Hp} : Run 152 165 L S h = Run 152 167 L (.int 9 :: S) h := Rg rfl
set_option maxRecDepth 100000 in
theorem e152_167 {L : Lo} {S : List Value} {h : Hp} {x z : Int32} : Run 152 167 L (.int z :: .int x :: S) h = Run 152 168 L (.int (x >>> (z &&& 31)) :: S) h := Rg rfl
set_option maxRecDepth 100000 in
theorem e152_168 {L : Lo} {S : List Value} {h : Hp} {x0 x1 x2 x3 x4 x5 : Option Value} {v : Int32} : Run 152 168 (x0 :: x1 :: x2 :: x3 :: x4 :: x5 :: some (.int v) :: L) S h = Run 152 170 (x0 :: x1 :: x2 :: x3 :: x4 :: x5 :: some (.int v) :: L) (.int v :: S) h := Rg rfl
set_option maxRecDepth 100000 in
theorem e152_170 {L : Lo} {h : Hp} {a1 : Int32} {a0 : Int32} : Run 152 170 L [.int a1, .int a0] h = (Run 120 0 [some (.int a0), some (.int a1)] [] h).bind fun o => aft 152 170 173 L [] o := Rc (c := 120) (As := [.int a0, .int a1]) (S' := []) (pc' := 173) rfl
set_option maxRecDepth 100000 in
theorem e152_173 {L : Lo} {S : List Value} {h : Hp} {x0 x1 x2 x3 x4 x5 x6 x7 x8 : Option Value} {y : Option Value} {v : Int32} : Run 152 173 (x0 :: x1 :: x2 :: x3 :: x4 :: x5 :: x6 :: x7 :: x8 :: y :: L) (.int v :: S) h = Run 152 175 (x0 :: x1 :: x2 :: x3 :: x4 :: x5 :: x6 :: x7 :: ck x8 :: some (.int v) :: L) S h := Rg rfl
set_option maxRecDepth 100000 in
theorem e152_175 {L : Lo} {S : List Value} {h : Hp} {x0 x1 x2 x3 x4 : Option Value} {v : Int32} : Run 152 175 (x0 :: x1 :: x2 :: x3 :: x4 :: some (.int v) :: L) S h = Run 152 177 (x0 :: x1 :: x2 :: x3 :: x4 :: some (.int v) :: L) (.int v :: S) h := Rg rfl
set_option maxRecDepth 100000 in
theorem e152_177 {L : Lo} {S : List Value} {h : Hp} {x0 : Option Value} {v : Nat} : Run 152 177 (x0 :: some (.ref v) :: L) S h = Run 152 178 (x0 :: some (.ref v) :: L) (.ref v :: S) h := Rg rfl
set_option maxRecDepth 100000 in
theorem e152_178 {L : Lo} {S : List Value} {h : Hp} : Run 152 178 L S h = Run 152 179 L (.int 0 :: S) h := Rg rfl
set_option maxRecDepth 100000 in
theorem e152_179 {L : Lo} {h : Hp} {a2 : Int32} {a1 : Nat} {a0 : Int32} : Run 152 179 L [.int a2, .ref a1, .int a0] h = (Run 125 0 [some (.ref a1), some (.int a2), none] [] h).bind fun o => aft 152 179 182 L [.int a0] o := Rc (c := 125) (As := [.ref a1, .int a2]) (S' := [.int a0]) (pc' := 182) rfl
set_option maxRecDepth 100000 in
theorem e152_182 {L : Lo} {S : List Value} {h : Hp} {x0 : Option Value} {v : Nat} : Run 152 182 (x0 :: some (.ref v) :: L) S h = Run 152 183 (x0 :: some (.ref v) :: L) (.ref v :: S) h := Rg rfl
set_option maxRecDepth 100000 in
theorem e152_183 {L : Lo} {S : List Value} {h : Hp} : Run 152 183 L S h = Run 152 184 L (.int 1 :: S) h := Rg rfl
set_option maxRecDepth 100000 in
theorem e152_184 {L : Lo} {h : Hp} {a3 : Int32} {a2 : Nat} {a1 : Int32} {a0 : Int32} : Run 152 184 L [.int a3, .ref a2, .int a1, .int a0] h = (Run 125 0 [some (.ref a2), some (.int a3), none] [] h).bind fun o => aft 152 184 187 L [.int a1, .int a0] o := Rc (c := 125) (As := [.ref a2, .int a3]) (S' := [.int a1, .int a0]) (pc' := 187) rfl
set_option maxRecDepth 100000 in
theorem e152_187 {L : Lo} {S : List Value} {h : Hp} {x z : Int32} : Run 152 187 L (.int z :: .int x :: S) h = Run 152 188 L (.int (x * z) :: S) h := Rg rfl
set_option maxRecDepth 100000 in
theorem e152_188 {L : Lo} {h : Hp} {a1 : Int32} {a0 : Int32} : Run 152 188 L [.int a1, .int a0] h = (Run 120 0 [some (.int a0), some (.int a1)] [] h).bind fun o => aft 152 188 191 L [] o := Rc (c := 120) (As := [.int a0, .int a1]) (S' := []) (pc' := 191) rfl
set_option maxRecDepth 100000 in
theorem e152_191 {L : Lo} {S : List Value} {h : Hp} {x0 x1 x2 x3 x4 x5 x6 x7 x8 x9 : Option Value} {y : Option Value} {v : Int32} : Run 152 191 (x0 :: x1 :: x2 :: x3 :: x4 :: x5 :: x6 :: x7 :: x8 :: x9 :: y :: L) (.int v :: S) h = Run 152 193 (x0 :: x1 :: x2 :: x3 :: x4 :: x5 :: x6 :: x7 :: x8 :: ck x9 :: some (.int v) :: L) S h := Rg rfl
set_option maxRecDepth 100000 in
theorem e152_193 {L : Lo} {S : List Value} {h : Hp} {x0 x1 x2 x3 x4 x5 x6 : Option Value} {v : Int32} : Run 152 193 (x0 :: x1 :: x2 :: x3 :: x4 :: x5 :: x6 :: some (.int v) :: L) S h = Run 152 195 (x0 :: x1 :: x2 :: x3 :: x4 :: x5 :: x6 :: some (.int v) :: L) (.int v :: S) h := Rg rfl
set_option maxRecDepth 100000 in
theorem e152_195 {L : Lo} {S : List Value} {h : Hp} {x : Int32} : Run 152 195 L (.int x :: S) h = if x = 0 then Run 152 198 L S h else Run 152 390 L S h := RbrN (c := cnd .ne x 0 = true) (off := 195) rfl rfl cnd_ne
set_option maxRecDepth 100000 in
theorem e152_198 {L : Lo} {S : List Value} {h : Hp} {x0 : Option Value} {v : Nat} : Run 152 198 (x0 :: some (.ref v) :: L) S h = Run 152 199 (x0 :: some (.ref v) :: L) (.ref v :: S) h := Rg rfl
set_option maxRecDepth 100000 in
theorem e152_199 {L : Lo} {S : List Value} {h : Hp} {x0 x1 x2 x3 x4 x5 x6 x7 x8 x9 : Option Value} {v : Int32} : Run 152 199 (x0 :: x1 :: x2 :: x3 :: x4 :: x5 :: x6 :: x7 :: x8 :: x9 :: some (.int v) :: L) S h = Run 152 201 (x0 :: x1 :: x2 :: x3 :: x4 :: x5 :: x6 :: x7 :: x8 :: x9 :: some (.int v) :: L) (.int v :: S) h := Rg rfl
set_option maxRecDepth 100000 in
theorem e152_201 {L : Lo} {h : Hp} {a1 : Int32} {a0 : Nat} : Run 152 201 L [.int a1, .ref a0] h = (Run 127 0 [some (.ref a0), some (.int a1), none] [] h).bind fun o => aft 152 201 204 L [] o := Rc (c := 127) (As := [.ref a0, .int a1]) (S' := []) (pc' := 204) rfl
set_option maxRecDepth 100000 in
theorem e152_204 {L : Lo} {S : List Value} {h : Hp} {x0 x1 x2 x3 x4 x5 x6 x7 x8 x9 x10 : Option Value} {y : Option Value} {v : Int32} : Run 152 204 (x0 :: x1 :: x2 :: x3 :: x4 :: x5 :: x6 :: x7 :: x8 :: x9 :: x10 :: y :: L) (.int v :: S) h = Run 152 206 (x0 :: x1 :: x2 :: x3 :: x4 :: x5 :: x6 :: x7 :: x8 :: x9 :: ck x10 :: some (.int v) :: L) S h := Rg rfl
set_option maxRecDepth 100000 in
theorem e152_206 {L : Lo} {S : List Value} {h : Hp} {x0 x1 x2 x3 x4 : Option Value} {v : Int32} : Run 152 206 (x0 :: x1 :: x2 :: x3 :: x4 :: some (.int v) :: L) S h = Run 152 208 (x0 :: x1 :: x2 :: x3 :: x4 :: some (.int v) :: L) (.int v :: S) h := Rg rfl
set_option maxRecDepth 100000 in
theorem e152_208 {L : Lo} {S : List Value} {h : Hp} : Run 152 208 L S h = Run 152 210 L (.int 8 :: S) h := Rg rfl
set_option maxRecDepth 100000 in
theorem e152_210 {L : Lo} {S : List Value} {h : Hp} {x z : Int32} : Run 152 210 L (.int z :: .int x :: S) h = Run 152 211 L (.int (x >>> (z &&& 31)) :: S) h := Rg rfl
set_option maxRecDepth 100000 in
theorem e152_211 {L : Lo} {S : List Value} {h : Hp} : Run 152 211 L S h = Run 152 212 L (.int 2 :: S) h := Rg rfl
set_option maxRecDepth 100000 in
theorem e152_212 {L : Lo} {h : Hp} {a1 : Int32} {a0 : Int32} : Run 152 212 L [.int a1, .int a0] h = (Run 120 0 [some (.int a0), some (.int a1)] [] h).bind fun o => aft 152 212 215 L [] o := Rc (c := 120) (As := [.int a0, .int a1]) (S' := []) (pc' := 215) rfl
set_option maxRecDepth 100000 in
theorem e152_215 {L : Lo} {S : List Value} {h : Hp} {x0 x1 x2 x3 x4 x5 x6 x7 x8 x9 x10 x11 : Option Value} {y : Option Value} {v : Int32} : Run 152 215 (x0 :: x1 :: x2 :: x3 :: x4 :: x5 :: x6 :: x7 :: x8 :: x9 :: x10 :: x11 :: y :: L) (.int v :: S) h = Run 152 217 (x0 :: x1 :: x2 :: x3 :: x4 :: x5 :: x6 :: x7 :: x8 :: x9 :: x10 :: ck x11 :: some (.int v) :: L) S h := Rg rfl
set_option maxRecDepth 100000 in
theorem e152_217 {L : Lo} {S : List Value} {h : Hp} {x0 : Option Value} {v : Nat} : Run 152 217 (x0 :: some (.ref v) :: L) S h = Run 152 218 (x0 :: some (.ref v) :: L) (.ref v :: S) h := Rg rfl
set_option maxRecDepth 100000 in
theorem e152_218 {L : Lo} {S : List Value} {h : Hp} {x0 x1 x2 x3 x4 x5 x6 x7 x8 x9 : Option Value} {v : Int32} : Run 152 218 (x0 :: x1 :: x2 :: x3 :: x4 :: x5 :: x6 :: x7 :: x8 :: x9 :: some (.int v) :: L) S h = Run 152 220 (x0 :: x1 :: x2 :: x3 :: x4 :: x5 :: x6 :: x7 :: x8 :: x9 :: some (.int v) :: L) (.int v :: S) h := Rg rfl
set_option maxRecDepth 100000 in
theorem e152_220 {L : Lo} {S : List Value} {h : Hp} {x0 x1 x2 x3 x4 x5 x6 x7 x8 x9 x10 x11 : Option Value} {v : Int32} : Run 152 220 (x0 :: x1 :: x2 :: x3 :: x4 :: x5 :: x6 :: x7 :: x8 :: x9 :: x10 :: x11 :: some (.int v) :: L) S h = Run 152 222 (x0 :: x1 :: x2 :: x3 :: x4 :: x5 :: x6 :: x7 :: x8 :: x9 :: x10 :: x11 :: some (.int v) :: L) (.int v :: S) h := Rg rfl
set_option maxRecDepth 100000 in
theorem e152_222 {L : Lo} {S : List Value} {h : Hp} : Run 152 222 L S h = Run 152 223 L (.int 2 :: S) h := Rg rfl
set_option maxRecDepth 100000 in
theorem e152_223 {L : Lo} {S : List Value} {h : Hp} {x0 x1 x2 x3 x4 : Option Value} {v : Int32} : Run 152 223 (x0 :: x1 :: x2 :: x3 :: x4 :: some (.int v) :: L) S h = Run 152 225 (x0 :: x1 :: x2 :: x3 :: x4 :: some (.int v) :: L) (.int v :: S) h := Rg rfl
set_option maxRecDepth 100000 in
theorem e152_225 {L : Lo} {S : List Value} {h : Hp} : Run 152 225 L S h = Run 152 227 L (.int 9 :: S) h := Rg rfl
set_option maxRecDepth 100000 in
theorem e152_227 {L : Lo} {S : List Value} {h : Hp} {x z : Int32} : Run 152 227 L (.int z :: .int x :: S) h = Run 152 228 L (.int (x >>> (z &&& 31)) :: S) h := Rg rfl
set_option maxRecDepth 100000 in
theorem e152_228 {L : Lo} {S : List Value} {h : Hp} : Run 152 228 L S h = Run 152 230 L (.int 6 :: S) h := Rg rfl
set_option maxRecDepth 100000 in
theorem e152_230 {L : Lo} {h : Hp} {a5 : Int32} {a4 : Int32} {a3 : Int32} {a2 : Int32} {a1 : Int32} {a0 : Nat} : Run 152 230 L [.int a5, .int a4, .int a3, .int a2, .int a1, .ref a0] h = (Run 120 0 [some (.int a4), some (.int a5)] [] h).bind fun o => aft 152 230 233 L [.int a3, .int a2, .int a1, .ref a0] o := Rc (c := 120) (As := [.int a4, .int a5]) (S' := [.int a3, .int a2, .int a1, .ref a0]) (pc' := 233) rfl
set_option maxRecDepth 100000 in
theorem e152_233 {L : Lo} {S : List Value} {h : Hp} {x z : Int32} : Run 152 233 L (.int z :: .int x :: S) h = Run 152 234 L (.int (x * z) :: S) h := Rg rfl
set_option maxRecDepth 100000 in
theorem e152_234 {L : Lo} {S : List Value} {h : Hp} {x z : Int32} : Run 152 234 L (.int z :: .int x :: S) h = Run 152 235 L (.int (x + z) :: S) h := Rg rfl
set_option maxRecDepth 100000 in
theorem e152_235 {L : Lo} {S : List Value} {h : Hp} : Run 152 235 L S h = Run 152 237 L (.int 12 :: S) h := Rg rfl
set_option maxRecDepth 100000 in
theorem e152_237 {L : Lo} {S : List Value} {h : Hp} : Run 152 237 L S h = Run 152 238 L (.int 1 :: S) h := Rg rfl
set_option maxRecDepth 100000 in
theorem e152_238 {L : Lo} {S : List Value} {h : Hp} {x0 x1 x2 x3 x4 : Option Value} {v : Int32} : Run 152 238 (x0 :: x1 :: x2 :: x3 :: x4 :: some (.int v) :: L) S h = Run 152 240 (x0 :: x1 :: x2 :: x3 :: x4 :: some (.int v) :: L) (.int v :: S) h := Rg rfl
set_option maxRecDepth 100000 in
theorem e152_240 {L : Lo} {S : List Value} {h : Hp} : Run 152 240 L S h = Run 152 242 L (.int 12 :: S) h := Rg rfl
set_option maxRecDepth 100000 in
theorem e152_242 {L : Lo} {S : List Value} {h : Hp} {x z : Int32} : Run 152 242 L (.int z :: .int x :: S) h = Run 152 243 L (.int (x >>> (z &&& 31)) :: S) h := Rg rfl
set_option maxRecDepth 100000 in
theorem e152_243 {L : Lo} {S : List Value} {h : Hp} : Run 152 243 L S h = Run 152 245 L (.int 30 :: S) h := Rg rfl
set_option maxRecDepth 100000 in
theorem e152_245 {L : Lo} {h : Hp} {a6 : Int32} {a5 : Int32} {a4 : Int32} {a3 : Int32} {a2 : Int32} {a1 : Int32} {a0 : Nat} : Run 152 245 L [.int a6, .int a5, .int a4, .int a3, .int a2, .int a1, .ref a0] h = (Run 120 0 [some (.int a5), some (.int a6)] [] h).bind fun o => aft 152 245 248 L [.int a4, .int a3, .int a2, .int a1, .ref a0] o := Rc (c := 120) (As := [.int a5, .int a6]) (S' := [.int a4, .int a3, .int a2, .int a1, .ref a0]) (pc' := 248) rfl
set_option maxRecDepth 100000 in
theorem e152_248 {L : Lo} {S : List Value} {h : Hp} {x z : Int32} : Run 152 248 L (.int z :: .int x :: S) h = Run 152 249 L (.int (x + z) :: S) h := Rg rfl
set_option maxRecDepth 100000 in
theorem e152_249 {L : Lo} {S : List Value} {h : Hp} {x z : Int32} : Run 152 249 L (.int z :: .int x :: S) h = Run 152 250 L (.int (x * z) :: S) h := Rg rfl
set_option maxRecDepth 100000 in
theorem e152_250 {L : Lo} {S : List Value} {h : Hp} {x z : Int32} : Run 152 250 L (.int z :: .int x :: S) h = Run 152 251 L (.int (x + z) :: S) h := Rg rfl
set_option maxRecDepth 100000 in
theorem e152_251 {L : Lo} {S : List Value} {h : Hp} : Run 152 251 L S h = Run 152 254 L (.int 768 :: S) h := Rg rfl
set_option maxRecDepth 100000 in
theorem e152_254 {L : Lo} {S : List Value} {h : Hp} {x0 x1 x2 x3 x4 : Option Value} {v : Int32} : Run 152 254 (x0 :: x1 :: x2 :: x3 :: x4 :: some (.int v) :: L) S h = Run 152 256 (x0 :: x1 :: x2 :: x3 :: x4 :: some (.int v) :: L) (.int v :: S) h := Rg rfl
set_option maxRecDepth 100000 in
theorem e152_256 {L : Lo} {S : List Value} {h : Hp} : Run 152 256 L S h = Run 152 258 L (.int 17 :: S) h := Rg rfl
set_option maxRecDepth 100000 in
theorem e152_258 {L : Lo} {S : List Value} {h : Hp} {x z : Int32} : Run 152 258 L (.int z :: .int x :: S) h = Run 152 259 L (.int (x >>> (z &&& 31)) :: S) h := Rg rfl
set_option maxRecDepth 100000 in
theorem e152_259 {L : Lo} {S : List Value} {h : Hp} : Run 152 259 L S h = Run 152 261 L (.int 13 :: S) h := Rg rfl
set_option maxRecDepth 100000 in
theorem e152_261 {L : Lo} {h : Hp} {a5 : Int32} {a4 : Int32} {a3 : Int32} {a2 : Int32} {a1 : Int32} {a0 : Nat} : Run 152 261 L [.int a5, .int a4, .int a3, .int a2, .int a1, .ref a0] h = (Run 120 0 [some (.int a4), some (.int a5)] [] h).bind fun o => aft 152 261 264 L [.int a3, .int a2, .int a1, .ref a0] o := Rc (c := 120) (As := [.int a4, .int a5]) (S' := [.int a3, .int a2, .int a1, .ref a0]) (pc' := 264) rfl
set_option maxRecDepth 100000 in
theorem e152_264 {L : Lo} {S : List Value} {h : Hp} {x z : Int32} : Run 152 264 L (.int z :: .int x :: S) h = Run 152 265 L (.int (x * z) :: S) h := Rg rfl
set_option maxRecDepth 100000 in
theorem e152_265 {L : Lo} {S : List Value} {h : Hp} {x z : Int32} : Run 152 265 L (.int z :: .int x :: S) h = Run 152 266 L (.int (x + z) :: S) h := Rg rfl
set_option maxRecDepth 100000 in
theorem e152_266 {L : Lo} {S : List Value} {h : Hp} : Run 152 266 L S h = Run 152 269 L (.int 12288 :: S) h := Rg rfl
set_option maxRecDepth 100000 in
theorem e152_269 {L : Lo} {S : List Value} {h : Hp} : Run 152 269 L S h = Run 152 270 L (.int 1 :: S) h := Rg rfl
set_option maxRecDepth 100000 in
theorem e152_270 {L : Lo} {S : List Value} {h : Hp} {x0 x1 x2 x3 x4 : Option Value} {v : Int32} : Run 152 270 (x0 :: x1 :: x2 :: x3 :: x4 :: some (.int v) :: L) S h = Run 152 272 (x0 :: x1 :: x2 :: x3 :: x4 :: some (.int v) :: L) (.int v :: S) h := Rg rfl
set_option maxRecDepth 100000 in
theorem e152_272 {L : Lo} {S : List Value} {h : Hp} : Run 152 272 L S h = Run 152 274 L (.int 20 :: S) h := Rg rfl
set_option maxRecDepth 100000 in
theorem e152_274 {L : Lo} {S : List Value} {h : Hp} {x z : Int32} : Run 152 274 L (.int z :: .int x :: S) h = Run 152 275 L (.int (x >>> (z &&& 31)) :: S) h := Rg rfl
set_option maxRecDepth 100000 in
theorem e152_275 {L : Lo} {S : List Value} {h : Hp} : Run 152 275 L S h = Run 152 277 L (.int 50 :: S) h := Rg rfl
set_option maxRecDepth 100000 in
theorem e152_277 {L : Lo} {h : Hp} {a6 : Int32} {a5 : Int32} {a4 : Int32} {a3 : Int32} {a2 : Int32} {a1 : Int32} {a0 : Nat} : Run 152 277 L [.int a6, .int a5, .int a4, .int a3, .int a2, .int a1, .ref a0] h = (Run 120 0 [some (.int a5), some (.int a6)] [] h).bind fun o => aft 152 277 280 L [.int a4, .int a3, .int a2, .int a1, .ref a0] o := Rc (c := 120) (As := [.int a5, .int a6]) (S' := [.int a4, .int a3, .int a2, .int a1, .ref a0]) (pc' := 280) rfl
set_option maxRecDepth 100000 in
theorem e152_280 {L : Lo} {S : List Value} {h : Hp} {x z : Int32} : Run 152 280 L (.int z :: .int x :: S) h = Run 152 281 L (.int (x + z) :: S) h := Rg rfl
set_option maxRecDepth 100000 in
theorem e152_281 {L : Lo} {S : List Value} {h : Hp} {x z : Int32} : Run 152 281 L (.int z :: .int x :: S) h = Run 152 282 L (.int (x * z) :: S) h := Rg rfl
set_option maxRecDepth 100000 in
theorem e152_282 {L : Lo} {S : List Value} {h : Hp} {x z : Int32} : Run 152 282 L (.int z :: .int x :: S) h = Run 152 283 L (.int (x + z) :: S) h := Rg rfl
set_option maxRecDepth 100000 in
theorem e152_283 {L : Lo} {h : Hp} {a2 : Int32} {a1 : Int32} {a0 : Nat} : Run 152 283 L [.int a2, .int a1, .ref a0] h = (Run 124 0 [some (.ref a0), some (.int a1), some (.int a2), none] [] h).bind fun o => aft 152 283 286 L [] o := Rc (c := 124) (As := [.ref a0, .int a1, .int a2]) (S' := []) (pc' := 286) rfl
set_option maxRecDepth 100000 in
theorem e152_286 {L : Lo} {S : List Value} {h : Hp} {x0 x1 x2 x3 x4 x5 x6 x7 x8 x9 x10 x11 x12 : Option Value} {y : Option Value} {v : Int32} : Run 152 286 (x0 :: x1 :: x2 :: x3 :: x4 :: x5 :: x6 :: x7 :: x8 :: x9 :: x10 :: x11 :: x12 :: y :: L) (.int v :: S) h = Run 152 288 (x0 :: x1 :: x2 :: x3 :: x4 :: x5 :: x6 :: x7 :: x8 :: x9 :: x10 :: x11 :: ck x12 :: some (.int v) :: L) S h := Rg rfl
set_option maxRecDepth 100000 in
theorem e152_288 {L : Lo} {S : List Value} {h : Hp} {x0 x1 x2 x3 x4 x5 x6 x7 x8 x9 x10 x11 x12 : Option Value} {v : Int32} : Run 152 288 (x0 :: x1 :: x2 :: x3 :: x4 :: x5 :: x6 :: x7 :: x8 :: x9 :: x10 :: x11 :: x12 :: some (.int v) :: L) S h = Run 152 290 (x0 :: x1 :: x2 :: x3 :: x4 :: x5 :: x6 :: x7 :: x8 :: x9 :: x10 :: x11 :: x12 :: some (.int v) :: L) (.int v :: S) h := Rg rfl
set_option maxRecDepth 100000 in
theorem e152_290 {L : Lo} {S : List Value} {h : Hp} {x0 x1 x2 x3 x4 x5 : Option Value} {v : Int32} : Run 152 290 (x0 :: x1 :: x2 :: x3 :: x4 :: x5 :: some (.int v) :: L) S h = Run 152 292 (x0 :: x1 :: x2 :: x3 :: x4 :: x5 :: some (.int v) :: L) (.int v :: S) h := Rg rfl
set_option maxRecDepth 100000 in
theorem e152_292 {L : Lo} {S : List Value} {h : Hp} : Run 152 292 L S h = Run 152 294 L (.int 8 :: S) h := Rg rfl
set_option maxRecDepth 100000 in
theorem e152_294 {L : Lo} {S : List Value} {h : Hp} {x z : Int32} : Run 152 294 L (.int z :: .int x :: S) h = if x = z then Run 152 303 L S h else Run 152 297 L S h := Rbr (c := cnd .eq x z = true) (off := 9) rfl rfl cnd_eq
set_option maxRecDepth 100000 in
theorem e152_297 {L : Lo} {S : List Value} {h : Hp} {x0 x1 x2 x3 x4 x5 x6 x7 x8 x9 x10 : Option Value} {v : Int32} : Run 152 297 (x0 :: x1 :: x2 :: x3 :: x4 :: x5 :: x6 :: x7 :: x8 :: x9 :: x10 :: some (.int v) :: L) S h = Run 152 299 (x0 :: x1 :: x2 :: x3 :: x4 :: x5 :: x6 :: x7 :: x8 :: x9 :: x10 :: some (.int v) :: L) (.int v :: S) h := Rg rfl
set_option maxRecDepth 100000 in
theorem e152_299 {L : Lo} {S : List Value} {h : Hp} : Run 152 299 L S h = Run 152 300 L (.int (-1) :: S) h := Rg rfl
set_option maxRecDepth 100000 in
theorem e152_300 {L : Lo} {S : List Value} {h : Hp} {x z : Int32} : Run 152 300 L (.int z :: .int x :: S) h = if x = z then Run 152 309 L S h else Run 152 303 L S h := Rbr (c := cnd .eq x z = true) (off := 9) rfl rfl cnd_eq
set_option maxRecDepth 100000 in
theorem e152_303 {L : Lo} {S : List Value} {h : Hp} : Run 152 303 L S h = Run 152 306 L (.int (-902) :: S) h := Rg rfl
set_option maxRecDepth 100000 in
theorem e152_306 {L : Lo} {S : List Value} {h : Hp} : Run 152 306 L S h = Run 152 311 L S h := Rg rfl
set_option maxRecDepth 100000 in
theorem e152_309 {L : Lo} {S : List Value} {h : Hp} {x0 x1 x2 x3 x4 x5 : Option Value} {v : Int32} : Run 152 309 (x0 :: x1 :: x2 :: x3 :: x4 :: x5 :: some (.int v) :: L) S h = Run 152 311 (x0 :: x1 :: x2 :: x3 :: x4 :: x5 :: some (.int v) :: L) (.int v :: S) h := Rg rfl
set_option maxRecDepth 100000 in
theorem e152_311 {L : Lo} {S : List Value} {h : Hp} {x z : Int32} : Run 152 311 L (.int z :: .int x :: S) h = if x = z then Run 152 314 L S h else Run 152 385 L S h := RbrN (c := cnd .ne x z = true) (off := 74) rfl rfl cnd_ne
set_option maxRecDepth 100000 in
theorem e152_314 {L : Lo} {S : List Value} {h : Hp} {x0 x1 x2 x3 x4 x5 x6 x7 x8 x9 x10 x11 x12 : Option Value} {v : Int32} : Run 152 314 (x0 :: x1 :: x2 :: x3 :: x4 :: x5 :: x6 :: x7 :: x8 :: x9 :: x10 :: x11 :: x12 :: some (.int v) :: L) S h = Run 152 316 (x0 :: x1 :: x2 :: x3 :: x4 :: x5 :: x6 :: x7 :: x8 :: x9 :: x10 :: x11 :: x12 :: some (.int v) :: L) (.int v :: S) h := Rg rfl
set_option maxRecDepth 100000 in
theorem e152_316 {L : Lo} {S : List Value} {h : Hp} {x : Int32} : Run 152 316 L (.int x :: S) h = if x < 0 then Run 152 387 L S h else Run 152 319 L S h := Rbr (c := cnd .lt x 0 = true) (off := 71) rfl rfl cnd_lt
set_option maxRecDepth 100000 in
theorem e152_319 {L : Lo} {S : List Value} {h : Hp} {x0 : Option Value} {v : Nat} : Run 152 319 (x0 :: some (.ref v) :: L) S h = Run 152 320 (x0 :: some (.ref v) :: L) (.ref v :: S) h := Rg rfl
set_option maxRecDepth 100000 in
theorem e152_320 {L : Lo} {S : List Value} {h : Hp} {x0 x1 x2 x3 x4 x5 x6 x7 x8 x9 x10 x11 x12 : Option Value} {v : Int32} : Run 152 320 (x0 :: x1 :: x2 :: x3 :: x4 :: x5 :: x6 :: x7 :: x8 :: x9 :: x10 :: x11 :: x12 :: some (.int v) :: L) S h = Run 152 322 (x0 :: x1 :: x2 :: x3 :: x4 :: x5 :: x6 :: x7 :: x8 :: x9 :: x10 :: x11 :: x12 :: some (.int v) :: L) (.int v :: S) h := Rg rfl
set_option maxRecDepth 100000 in
theorem e152_322 {L : Lo} {S : List Value} {h : Hp} : Run 152 322 L S h = Run 152 323 L (.int 0 :: S) h := Rg rfl
set_option maxRecDepth 100000 in
theorem e152_323 {L : Lo} {h : Hp} {a2 : Int32} {a1 : Int32} {a0 : Nat} : Run 152 323 L [.int a2, .int a1, .ref a0] h = (Run 126 0 [some (.ref a0), some (.int a1), some (.int a2), none] [] h).bind fun o => aft 152 323 326 L [] o := Rc (c := 126) (As := [.ref a0, .int a1, .int a2]) (S' := []) (pc' := 326) rfl
set_option maxRecDepth 100000 in
theorem e152_326 {L : Lo} {S : List Value} {h : Hp} {x0 x1 x2 x3 x4 x5 x6 x7 x8 x9 x10 x11 : Option Value} {v : Int32} : Run 152 326 (x0 :: x1 :: x2 :: x3 :: x4 :: x5 :: x6 :: x7 :: x8 :: x9 :: x10 :: x11 :: some (.int v) :: L) S h = Run 152 328 (x0 :: x1 :: x2 :: x3 :: x4 :: x5 :: x6 :: x7 :: x8 :: x9 :: x10 :: x11 :: some (.int v) :: L) (.int v :: S) h := Rg rfl
set_option maxRecDepth 100000 in
theorem e152_328 {L : Lo} {S : List Value} {h : Hp} {x z : Int32} : Run 152 328 L (.int z :: .int x :: S) h = if x = z then Run 152 331 L S h else Run 152 385 L S h := RbrN (c := cnd .ne x z = true) (off := 57) rfl rfl cnd_ne
set_option maxRecDepth 100000 in
theorem e152_331 {L : Lo} {S : List Value} {h : Hp} {x0 : Option Value} {v : Nat} : Run 152 331 (x0 :: some (.ref v) :: L) S h = Run 152 332 (x0 :: some (.ref v) :: L) (.ref v :: S) h := Rg rfl
set_option maxRecDepth 100000 in
theorem e152_332 {L : Lo} {S : List Value} {h : Hp} {x0 x1 x2 x3 x4 x5 x6 x7 x8 x9 x10 x11 x12 : Option Value} {v : Int32} : Run 152 332 (x0 :: x1 :: x2 :: x3 :: x4 :: x5 :: x6 :: x7 :: x8 :: x9 :: x10 :: x11 :: x12 :: some (.int v) :: L) S h = Run 152 334 (x0 :: x1 :: x2 :: x3 :: x4 :: x5 :: x6 :: x7 :: x8 :: x9 :: x10 :: x11 :: x12 :: some (.int v) :: L) (.int v :: S) h := Rg rfl
set_option maxRecDepth 100000 in
theorem e152_334 {L : Lo} {S : List Value} {h : Hp} : Run 152 334 L S h = Run 152 335 L (.int 1 :: S) h := Rg rfl
set_option maxRecDepth 100000 in
theorem e152_335 {L : Lo} {h : Hp} {a2 : Int32} {a1 : Int32} {a0 : Nat} : Run 152 335 L [.int a2, .int a1, .ref a0] h = (Run 126 0 [some (.ref a0), some (.int a1), some (.int a2), none] [] h).bind fun o => aft 152 335 338 L [] o := Rc (c := 126) (As := [.ref a0, .int a1, .int a2]) (S' := []) (pc' := 338) rfl
set_option maxRecDepth 100000 in
theorem e152_338 {L : Lo} {S : List Value} {h : Hp} {x0 x1 x2 x3 x4 x5 x6 x7 x8 x9 : Option Value} {v : Int32} : Run 152 338 (x0 :: x1 :: x2 :: x3 :: x4 :: x5 :: x6 :: x7 :: x8 :: x9 :: some (.int v) :: L) S h = Run 152 340 (x0 :: x1 :: x2 :: x3 :: x4 :: x5 :: x6 :: x7 :: x8 :: x9 :: some (.int v) :: L) (.int v :: S) h := Rg rfl
set_option maxRecDepth 100000 in
theorem e152_340 {L : Lo} {S : List Value} {h : Hp} {x z : Int32} : Run 152 340 L (.int z :: .int x :: S) h = if x = z then Run 152 343 L S h else Run 152 385 L S h := RbrN (c := cnd .ne x z = true) (off := 45) rfl rfl cnd_ne
set_option maxRecDepth 100000 in
theorem e152_343 {L : Lo} {S : List Value} {h : Hp} {x0 : Option Value} {v : Nat} : Run 152 343 (x0 :: some (.ref v) :: L) S h = Run 152 344 (x0 :: some (.ref v) :: L) (.ref v :: S) h := Rg rfl
set_option maxRecDepth 100000 in
theorem e152_344 {L : Lo} {S : List Value} {h : Hp} {x0 x1 x2 x3 x4 x5 x6 x7 x8 x9 x10 x11 x12 : Option Value} {v : Int32} : Run 152 344 (x0 :: x1 :: x2 :: x3 :: x4 :: x5 :: x6 :: x7 :: x8 :: x9 :: x10 :: x11 :: x12 :: some (.int v) :: L) S h = Run 152 346 (x0 :: x1 :: x2 :: x3 :: x4 :: x5 :: x6 :: x7 :: x8 :: x9 :: x10 :: x11 :: x12 :: some (.int v) :: L) (.int v :: S) h := Rg rfl
set_option maxRecDepth 100000 in
theorem e152_346 {L : Lo} {S : List Value} {h : Hp} : Run 152 346 L S h = Run 152 347 L (.int 4 :: S) h := Rg rfl
set_option maxRecDepth 100000 in
theorem e152_347 {L : Lo} {h : Hp} {a2 : Int32} {a1 : Int32} {a0 : Nat} : Run 152 347 L [.int a2, .int a1, .ref a0] h = (Run 126 0 [some (.ref a0), some (.int a1), some (.int a2), none] [] h).bind fun o => aft 152 347 350 L [] o := Rc (c := 126) (As := [.ref a0, .int a1, .int a2]) (S' := []) (pc' := 350) rfl
set_option maxRecDepth 100000 in
theorem e152_350 {L : Lo} {S : List Value} {h : Hp} : Run 152 350 L S h = Run 152 352 L (.int 20 :: S) h := Rg rfl
set_option maxRecDepth 100000 in
theorem e152_352 {L : Lo} {S : List Value} {h : Hp} {x z : Int32} : Run 152 352 L (.int z :: .int x :: S) h = if x = z then Run 152 355 L S h else Run 152 385 L S h := RbrN (c := cnd .ne x z = true) (off := 33) rfl rfl cnd_ne
set_option maxRecDepth 100000 in
theorem e152_355 {L : Lo} {S : List Value} {h : Hp} {x0 : Option Value} {v : Nat} : Run 152 355 (x0 :: some (.ref v) :: L) S h = Run 152 356 (x0 :: some (.ref v) :: L) (.ref v :: S) h := Rg rfl
set_option maxRecDepth 100000 in
theorem e152_356 {L : Lo} {S : List Value} {h : Hp} {x0 x1 x2 x3 x4 x5 x6 x7 x8 x9 x10 x11 x12 : Option Value} {v : Int32} : Run 152 356 (x0 :: x1 :: x2 :: x3 :: x4 :: x5 :: x6 :: x7 :: x8 :: x9 :: x10 :: x11 :: x12 :: some (.int v) :: L) S h = Run 152 358 (x0 :: x1 :: x2 :: x3 :: x4 :: x5 :: x6 :: x7 :: x8 :: x9 :: x10 :: x11 :: x12 :: some (.int v) :: L) (.int v :: S) h := Rg rfl
set_option maxRecDepth 100000 in
theorem e152_358 {L : Lo} {S : List Value} {h : Hp} : Run 152 358 L S h = Run 152 359 L (.int 5 :: S) h := Rg rfl
set_option maxRecDepth 100000 in
theorem e152_359 {L : Lo} {h : Hp} {a2 : Int32} {a1 : Int32} {a0 : Nat} : Run 152 359 L [.int a2, .int a1, .ref a0] h = (Run 126 0 [some (.ref a0), some (.int a1), some (.int a2), none] [] h).bind fun o => aft 152 359 362 L [] o := Rc (c := 126) (As := [.ref a0, .int a1, .int a2]) (S' := []) (pc' := 362) rfl
set_option maxRecDepth 100000 in
theorem e152_362 {L : Lo} {S : List Value} {h : Hp} {x0 : Option Value} {v : Nat} : Run 152 362 (x0 :: some (.ref v) :: L) S h = Run 152 363 (x0 :: some (.ref v) :: L) (.ref v :: S) h := Rg rfl
set_option maxRecDepth 100000 in
theorem e152_363 {L : Lo} {S : List Value} {h : Hp} {x0 x1 x2 x3 x4 x5 x6 x7 x8 x9 x10 x11 x12 : Option Value} {v : Int32} : Run 152 363 (x0 :: x1 :: x2 :: x3 :: x4 :: x5 :: x6 :: x7 :: x8 :: x9 :: x10 :: x11 :: x12 :: some (.int v) :: L) S h = Run 152 365 (x0 :: x1 :: x2 :: x3 :: x4 :: x5 :: x6 :: x7 :: x8 :: x9 :: x10 :: x11 :: x12 :: some (.int v) :: L) (.int v :: S) h := Rg rfl
set_option maxRecDepth 100000 in
theorem e152_365 {L : Lo} {S : List Value} {h : Hp} : Run 152 365 L S h = Run 152 367 L (.int 6 :: S) h := Rg rfl
set_option maxRecDepth 100000 in
theorem e152_367 {L : Lo} {h : Hp} {a3 : Int32} {a2 : Int32} {a1 : Nat} {a0 : Int32} : Run 152 367 L [.int a3, .int a2, .ref a1, .int a0] h = (Run 126 0 [some (.ref a1), some (.int a2), some (.int a3), none] [] h).bind fun o => aft 152 367 370 L [.int a0] o := Rc (c := 126) (As := [.ref a1, .int a2, .int a3]) (S' := [.int a0]) (pc' := 370) rfl
set_option maxRecDepth 100000 in
theorem e152_370 {L : Lo} {S : List Value} {h : Hp} {x z : Int32} : Run 152 370 L (.int z :: .int x :: S) h = if x = z then Run 152 373 L S h else Run 152 385 L S h := RbrN (c := cnd .ne x z = true) (off := 15) rfl rfl cnd_ne
set_option maxRecDepth 100000 in
theorem e152_373 {L : Lo} {S : List Value} {h : Hp} {x0 : Option Value} {v : Nat} : Run 152 373 (x0 :: some (.ref v) :: L) S h = Run 152 374 (x0 :: some (.ref v) :: L) (.ref v :: S) h := Rg rfl
set_option maxRecDepth 100000 in
theorem e152_374 {L : Lo} {S : List Value} {h : Hp} {x0 x1 x2 x3 x4 x5 x6 x7 x8 x9 x10 x11 x12 : Option Value} {v : Int32} : Run 152 374 (x0 :: x1 :: x2 :: x3 :: x4 :: x5 :: x6 :: x7 :: x8 :: x9 :: x10 :: x11 :: x12 :: some (.int v) :: L) S h = Run 152 376 (x0 :: x1 :: x2 :: x3 :: x4 :: x5 :: x6 :: x7 :: x8 :: x9 :: x10 :: x11 :: x12 :: some (.int v) :: L) (.int v :: S) h := Rg rfl
set_option maxRecDepth 100000 in
theorem e152_376 {L : Lo} {S : List Value} {h : Hp} : Run 152 376 L S h = Run 152 378 L (.int 11 :: S) h := Rg rfl
set_option maxRecDepth 100000 in
theorem e152_378 {L : Lo} {h : Hp} {a2 : Int32} {a1 : Int32} {a0 : Nat} : Run 152 378 L [.int a2, .int a1, .ref a0] h = (Run 126 0 [some (.ref a0), some (.int a1), some (.int a2), none] [] h).bind fun o => aft 152 378 381 L [] o := Rc (c := 126) (As := [.ref a0, .int a1, .int a2]) (S' := []) (pc' := 381) rfl
set_option maxRecDepth 100000 in
theorem e152_381 {L : Lo} {S : List Value} {h : Hp} : Run 152 381 L S h = Run 152 382 L (.int (-1) :: S) h := Rg rfl
set_option maxRecDepth 100000 in
theorem e152_382 {L : Lo} {S : List Value} {h : Hp} {x z : Int32} : Run 152 382 L (.int z :: .int x :: S) h = if x = z then Run 152 387 L S h else Run 152 385 L S h := Rbr (c := cnd .eq x z = true) (off := 5) rfl rfl cnd_eq
set_option maxRecDepth 100000 in
theorem e152_385 {L : Lo} {S : List Value} {h : Hp} : Run 152 385 L S h = Run 152 386 L (.int 0 :: S) h := Rg rfl
set_option maxRecDepth 100000 in
theorem e152_386 {L : Lo} {h : Hp} {x : Int32} (hx : narrow .boolean (.int x) = .int x) : Run 152 386 L [.int x] h = some (.inl (some (.int x)), h) := Rd (if_pos hx)
set_option maxRecDepth 100000 in
theorem e152_387 {L : Lo} {S : List Value} {h : Hp} : Run 152 387 L S h = Run 152 649 L S h := Rg rfl
set_option maxRecDepth 100000 in
theorem e152_390 {L : Lo} {S : List Value} {h : Hp} {x0 x1 x2 x3 x4 x5 x6 : Option Value} {v : Int32} : Run 152 390 (x0 :: x1 :: x2 :: x3 :: x4 :: x5 :: x6 :: some (.int v) :: L) S h = Run 152 392 (x0 :: x1 :: x2 :: x3 :: x4 :: x5 :: x6 :: some (.int v) :: L) (.int v :: S) h := Rg rfl
set_option maxRecDepth 100000 in
theorem e152_392 {L : Lo} {S : List Value} {h : Hp} : Run 152 392 L S h = Run 152 393 L (.int 1 :: S) h := Rg rfl
set_option maxRecDepth 100000 in
theorem e152_393 {L : Lo} {S : List Value} {h : Hp} {x z : Int32} : Run 152 393 L (.int z :: .int x :: S) h = if x = z then Run 152 396 L S h else Run 152 491 L S h := RbrN (c := cnd .ne x z = true) (off := 98) rfl rfl cnd_ne
set_option maxRecDepth 100000 in
theorem e152_396 {L : Lo} {S : List Value} {h : Hp} {x0 : Option Value} {v : Nat} : Run 152 396 (x0 :: some (.ref v) :: L) S h = Run 152 397 (x0 :: some (.ref v) :: L) (.ref v :: S) h := Rg rfl
set_option maxRecDepth 100000 in
theorem e152_397 {L : Lo} {S : List Value} {h : Hp} {x0 x1 x2 x3 x4 x5 x6 x7 x8 x9 : Option Value} {v : Int32} : Run 152 397 (x0 :: x1 :: x2 :: x3 :: x4 :: x5 :: x6 :: x7 :: x8 :: x9 :: some (.int v) :: L) S h = Run 152 399 (x0 :: x1 :: x2 :: x3 :: x4 :: x5 :: x6 :: x7 :: x8 :: x9 :: some (.int v) :: L) (.int v :: S) h := Rg rfl
set_option maxRecDepth 100000 in
theorem e152_399 {L : Lo} {h : Hp} {a1 : Int32} {a0 : Nat} : Run 152 399 L [.int a1, .ref a0] h = (Run 127 0 [some (.ref a0), some (.int a1), none] [] h).bind fun o => aft 152 399 402 L [] o := Rc (c := 127) (As := [.ref a0, .int a1]) (S' := []) (pc' := 402) rfl
set_option maxRecDepth 100000 in
theorem e152_402 {L : Lo} {S : List Value} {h : Hp} {x0 x1 x2 x3 x4 x5 x6 x7 x8 x9 x10 : Option Value} {y : Option Value} {v : Int32} : Run 152 402 (x0 :: x1 :: x2 :: x3 :: x4 :: x5 :: x6 :: x7 :: x8 :: x9 :: x10 :: y :: L) (.int v :: S) h = Run 152 404 (x0 :: x1 :: x2 :: x3 :: x4 :: x5 :: x6 :: x7 :: x8 :: x9 :: ck x10 :: some (.int v) :: L) S h := Rg rfl
set_option maxRecDepth 100000 in
theorem e152_404 {L : Lo} {S : List Value} {h : Hp} {x0 x1 x2 x3 x4 : Option Value} {v : Int32} : Run 152 404 (x0 :: x1 :: x2 :: x3 :: x4 :: some (.int v) :: L) S h = Run 152 406 (x0 :: x1 :: x2 :: x3 :: x4 :: some (.int v) :: L) (.int v :: S) h := Rg rfl
set_option maxRecDepth 100000 in
theorem e152_406 {L : Lo} {S : List Value} {h : Hp} : Run 152 406 L S h = Run 152 408 L (.int 8 :: S) h := Rg rfl
set_option maxRecDepth 100000 in
theorem e152_408 {L : Lo} {S : List Value} {h : Hp} {x z : Int32} : Run 152 408 L (.int z :: .int x :: S) h = Run 152 409 L (.int (x >>> (z &&& 31)) :: S) h := Rg rfl
set_option maxRecDepth 100000 in
theorem e152_409 {L : Lo} {S : List Value} {h : Hp} : Run 152 409 L S h = Run 152 410 L (.int 3 :: S) h := Rg rfl
set_option maxRecDepth 100000 in
theorem e152_410 {L : Lo} {h : Hp} {a1 : Int32} {a0 : Int32} : Run 152 410 L [.int a1, .int a0] h = (Run 120 0 [some (.int a0), some (.int a1)] [] h).bind fun o => aft 152 410 413 L [] o := Rc (c := 120) (As := [.int a0, .int a1]) (S' := []) (pc' := 413) rfl
set_option maxRecDepth 100000 in
theorem e152_413 {L : Lo} {S : List Value} {h : Hp} {x : Int32} : Run 152 413 L (.int x :: S) h = if x = 0 then Run 152 416 L S h else Run 152 420 L S h := RbrN (c := cnd .ne x 0 = true) (off := 7) rfl rfl cnd_ne
set_option maxRecDepth 100000 in
theorem e152_416 {L : Lo} {S : List Value} {h : Hp} : Run 152 416 L S h = Run 152 417 L (.int 1 :: S) h := Rg rfl
set_option maxRecDepth 100000 in
theorem e152_417 {L : Lo} {S : List Value} {h : Hp} : Run 152 417 L S h = Run 152 421 L S h := Rg rfl
set_option maxRecDepth 100000 in
theorem e152_420 {L : Lo} {S : List Value} {h : Hp} : Run 152 420 L S h = Run 152 421 L (.int 0 :: S) h := Rg rfl
set_option maxRecDepth 100000 in
theorem e152_421 {L : Lo} {S : List Value} {h : Hp} {x0 x1 x2 x3 x4 x5 x6 x7 x8 x9 x10 x11 : Option Value} {y : Option Value} {v : Int32} : Run 152 421 (x0 :: x1 :: x2 :: x3 :: x4 :: x5 :: x6 :: x7 :: x8 :: x9 :: x10 :: x11 :: y :: L) (.int v :: S) h = Run 152 423 (x0 :: x1 :: x2 :: x3 :: x4 :: x5 :: x6 :: x7 :: x8 :: x9 :: x10 :: ck x11 :: some (.int v) :: L) S h := Rg rfl
set_option maxRecDepth 100000 in
theorem e152_423 {L : Lo} {S : List Value} {h : Hp} {x0 : Option Value} {v : Nat} : Run 152 423 (x0 :: some (.ref v) :: L) S h = Run 152 424 (x0 :: some (.ref v) :: L) (.ref v :: S) h := Rg rfl
set_option maxRecDepth 100000 in
theorem e152_424 {L : Lo} {S : List Value} {h : Hp} {x0 x1 x2 x3 x4 x5 x6 x7 x8 x9 : Option Value} {v : Int32} : Run 152 424 (x0 :: x1 :: x2 :: x3 :: x4 :: x5 :: x6 :: x7 :: x8 :: x9 :: some (.int v) :: L) S h = Run 152 426 (x0 :: x1 :: x2 :: x3 :: x4 :: x5 :: x6 :: x7 :: x8 :: x9 :: some (.int v) :: L) (.int v :: S) h := Rg rfl
set_option maxRecDepth 100000 in
theorem e152_426 {L : Lo} {S : List Value} {h : Hp} {x0 x1 x2 x3 x4 x5 x6 x7 x8 x9 x10 x11 : Option Value} {v : Int32} : Run 152 426 (x0 :: x1 :: x2 :: x3 :: x4 :: x5 :: x6 :: x7 :: x8 :: x9 :: x10 :: x11 :: some (.int v) :: L) S h = Run 152 428 (x0 :: x1 :: x2 :: x3 :: x4 :: x5 :: x6 :: x7 :: x8 :: x9 :: x10 :: x11 :: some (.int v) :: L) (.int v :: S) h := Rg rfl
set_option maxRecDepth 100000 in
theorem e152_428 {L : Lo} {h : Hp} {a2 : Int32} {a1 : Int32} {a0 : Nat} : Run 152 428 L [.int a2, .int a1, .ref a0] h = (Run 122 0 [some (.ref a0), some (.int a1), some (.int a2), none] [] h).bind fun o => aft 152 428 431 L [] o := Rc (c := 122) (As := [.ref a0, .int a1, .int a2]) (S' := []) (pc' := 431) rfl
set_option maxRecDepth 100000 in
theorem e152_431 {L : Lo} {S : List Value} {h : Hp} {x0 x1 x2 x3 x4 x5 x6 x7 x8 x9 x10 x11 x12 : Option Value} {y : Option Value} {v : Int32} : Run 152 431 (x0 :: x1 :: x2 :: x3 :: x4 :: x5 :: x6 :: x7 :: x8 :: x9 :: x10 :: x11 :: x12 :: y :: L) (.int v :: S) h = Run 152 433 (x0 :: x1 :: x2 :: x3 :: x4 :: x5 :: x6 :: x7 :: x8 :: x9 :: x10 :: x11 :: ck x12 :: some (.int v) :: L) S h := Rg rfl
set_option maxRecDepth 100000 in
theorem e152_433 {L : Lo} {S : List Value} {h : Hp} {x0 x1 x2 x3 x4 x5 x6 x7 x8 x9 x10 x11 x12 : Option Value} {v : Int32} : Run 152 433 (x0 :: x1 :: x2 :: x3 :: x4 :: x5 :: x6 :: x7 :: x8 :: x9 :: x10 :: x11 :: x12 :: some (.int v) :: L) S h = Run 152 435 (x0 :: x1 :: x2 :: x3 :: x4 :: x5 :: x6 :: x7 :: x8 :: x9 :: x10 :: x11 :: x12 :: some (.int v) :: L) (.int v :: S) h := Rg rfl
set_option maxRecDepth 100000 in
theorem e152_435 {L : Lo} {S : List Value} {h : Hp} {x0 x1 x2 x3 x4 x5 x6 x7 x8 x9 x10 : Option Value} {v : Int32} : Run 152 435 (x0 :: x1 :: x2 :: x3 :: x4 :: x5 :: x6 :: x7 :: x8 :: x9 :: x10 :: some (.int v) :: L) S h = Run 152 437 (x0 :: x1 :: x2 :: x3 :: x4 :: x5 :: x6 :: x7 :: x8 :: x9 :: x10 :: some (.int v) :: L) (.int v :: S) h := Rg rfl
set_option maxRecDepth 100000 in
theorem e152_437 {L : Lo} {S : List Value} {h : Hp} {x : Int32} : Run 152 437 L (.int x :: S) h = if x < 0 then Run 152 446 L S h else Run 152 440 L S h := Rbr (c := cnd .lt x 0 = true) (off := 9) rfl rfl cnd_lt
set_option maxRecDepth 100000 in
theorem e152_440 {L : Lo} {S : List Value} {h : Hp} : Run 152 440 L S h = Run 152 443 L (.int (-902) :: S) h := Rg rfl
set_option maxRecDepth 100000 in
theorem e152_443 {L : Lo} {S : List Value} {h : Hp} : Run 152 443 L S h = Run 152 458 L S h := Rg rfl
set_option maxRecDepth 100000 in
theorem e152_446 {L : Lo} {S : List Value} {h : Hp} {x0 x1 x2 x3 x4 x5 x6 x7 x8 x9 x10 : Option Value} {v : Int32} : Run 152 446 (x0 :: x1 :: x2 :: x3 :: x4 :: x5 :: x6 :: x7 :: x8 :: x9 :: x10 :: some (.int v) :: L) S h = Run 152 448 (x0 :: x1 :: x2 :: x3 :: x4 :: x5 :: x6 :: x7 :: x8 :: x9 :: x10 :: some (.int v) :: L) (.int v :: S) h := Rg rfl
set_option maxRecDepth 100000 in
theorem e152_448 {L : Lo} {S : List Value} {h : Hp} : Run 152 448 L S h = Run 152 450 L (.int (-2) :: S) h := Rg rfl
set_option maxRecDepth 100000 in
theorem e152_450 {L : Lo} {S : List Value} {h : Hp} {x z : Int32} : Run 152 450 L (.int z :: .int x :: S) h = if x = z then Run 152 453 L S h else Run 152 457 L S h := RbrN (c := cnd .ne x z = true) (off := 7) rfl rfl cnd_ne
set_option maxRecDepth 100000 in
theorem e152_453 {L : Lo} {S : List Value} {h : Hp} : Run 152 453 L S h = Run 152 454 L (.int 1 :: S) h := Rg rfl
set_option maxRecDepth 100000 in
theorem e152_454 {L : Lo} {S : List Value} {h : Hp} : Run 152 454 L S h = Run 152 458 L S h := Rg rfl
set_option maxRecDepth 100000 in
theorem e152_457 {L : Lo} {S : List Value} {h : Hp} : Run 152 457 L S h = Run 152 458 L (.int 0 :: S) h := Rg rfl
set_option maxRecDepth 100000 in
theorem e152_458 {L : Lo} {S : List Value} {h : Hp} {x z : Int32} : Run 152 458 L (.int z :: .int x :: S) h = if x = z then Run 152 461 L S h else Run 152 486 L S h := RbrN (c := cnd .ne x z = true) (off := 28) rfl rfl cnd_ne
set_option maxRecDepth 100000 in
theorem e152_461 {L : Lo} {S : List Value} {h : Hp} {x0 x1 x2 x3 x4 x5 x6 x7 x8 x9 x10 x11 x12 : Option Value} {v : Int32} : Run 152 461 (x0 :: x1 :: x2 :: x3 :: x4 :: x5 :: x6 :: x7 :: x8 :: x9 :: x10 :: x11 :: x12 :: some (.int v) :: L) S h = Run 152 463 (x0 :: x1 :: x2 :: x3 :: x4 :: x5 :: x6 :: x7 :: x8 :: x9 :: x10 :: x11 :: x12 :: some (.int v) :: L) (.int v :: S) h := Rg rfl
set_option maxRecDepth 100000 in
theorem e152_463 {L : Lo} {S : List Value} {h : Hp} {x : Int32} : Run 152 463 L (.int x :: S) h = if x < 0 then Run 152 488 L S h else Run 152 466 L S h := Rbr (c := cnd .lt x 0 = true) (off := 25) rfl rfl cnd_lt
set_option maxRecDepth 100000 in
theorem e152_466 {L : Lo} {S : List Value} {h : Hp} {x0 : Option Value} {v : Nat} : Run 152 466 (x0 :: some (.ref v) :: L) S h = Run 152 467 (x0 :: some (.ref v) :: L) (.ref v :: S) h := Rg rfl
set_option maxRecDepth 100000 in
theorem e152_467 {L : Lo} {S : List Value} {h : Hp} {x0 x1 x2 x3 x4 x5 x6 x7 x8 x9 : Option Value} {v : Int32} : Run 152 467 (x0 :: x1 :: x2 :: x3 :: x4 :: x5 :: x6 :: x7 :: x8 :: x9 :: some (.int v) :: L) S h = Run 152 469 (x0 :: x1 :: x2 :: x3 :: x4 :: x5 :: x6 :: x7 :: x8 :: x9 :: some (.int v) :: L) (.int v :: S) h := Rg rfl
set_option maxRecDepth 100000 in
theorem e152_469 {L : Lo} {h : Hp} {a1 : Int32} {a0 : Nat} : Run 152 469 L [.int a1, .ref a0] h = (Run 127 0 [some (.ref a0), some (.int a1), none] [] h).bind fun o => aft 152 469 472 L [] o := Rc (c := 127) (As := [.ref a0, .int a1]) (S' := []) (pc' := 472) rfl
set_option maxRecDepth 100000 in
theorem e152_472 {L : Lo} {S : List Value} {h : Hp} {x0 x1 x2 x3 x4 x5 x6 x7 x8 x9 x10 x11 : Option Value} {v : Int32} : Run 152 472 (x0 :: x1 :: x2 :: x3 :: x4 :: x5 :: x6 :: x7 :: x8 :: x9 :: x10 :: x11 :: some (.int v) :: L) S h = Run 152 474 (x0 :: x1 :: x2 :: x3 :: x4 :: x5 :: x6 :: x7 :: x8 :: x9 :: x10 :: x11 :: some (.int v) :: L) (.int v :: S) h := Rg rfl
set_option maxRecDepth 100000 in
theorem e152_474 {L : Lo} {S : List Value} {h : Hp} {x : Int32} : Run 152 474 L (.int x :: S) h = if x = 0 then Run 152 482 L S h else Run 152 477 L S h := Rbr (c := cnd .eq x 0 = true) (off := 8) rfl rfl cnd_eq
set_option maxRecDepth 100000 in
theorem e152_477 {L : Lo} {S : List Value} {h : Hp} : Run 152 477 L S h = Run 152 479 L (.int (-2) :: S) h := Rg rfl
set_option maxRecDepth 100000 in
theorem e152_479 {L : Lo} {S : List Value} {h : Hp} : Run 152 479 L S h = Run 152 483 L S h := Rg rfl
set_option maxRecDepth 100000 in
theorem e152_482 {L : Lo} {S : List Value} {h : Hp} : Run 152 482 L S h = Run 152 483 L (.int (-1) :: S) h := Rg rfl
set_option maxRecDepth 100000 in
theorem e152_483 {L : Lo} {S : List Value} {h : Hp} {x z : Int32} : Run 152 483 L (.int z :: .int x :: S) h = if x = z then Run 152 488 L S h else Run 152 486 L S h := Rbr (c := cnd .eq x z = true) (off := 5) rfl rfl cnd_eq
set_option maxRecDepth 100000 in
theorem e152_486 {L : Lo} {S : List Value} {h : Hp} : Run 152 486 L S h = Run 152 487 L (.int 0 :: S) h := Rg rfl
set_option maxRecDepth 100000 in
theorem e152_487 {L : Lo} {h : Hp} {x : Int32} (hx : narrow .boolean (.int x) = .int x) : Run 152 487 L [.int x] h = some (.inl (some (.int x)), h) := Rd (if_pos hx)
set_option maxRecDepth 100000 in
theorem e152_488 {L : Lo} {S : List Value} {h : Hp} : Run 152 488 L S h = Run 152 649 L S h := Rg rfl
set_option maxRecDepth 100000 in
theorem e152_491 {L : Lo} {S : List Value} {h : Hp} {x0 x1 x2 x3 x4 x5 x6 : Option Value} {v : Int32} : Run 152 491 (x0 :: x1 :: x2 :: x3 :: x4 :: x5 :: x6 :: some (.int v) :: L) S h = Run 152 493 (x0 :: x1 :: x2 :: x3 :: x4 :: x5 :: x6 :: some (.int v) :: L) (.int v :: S) h := Rg rfl
set_option maxRecDepth 100000 in
theorem e152_493 {L : Lo} {S : List Value} {h : Hp} : Run 152 493 L S h = Run 152 494 L (.int 2 :: S) h := Rg rfl
set_option maxRecDepth 100000 in
theorem e152_494 {L : Lo} {S : List Value} {h : Hp} {x z : Int32} : Run 152 494 L (.int z :: .int x :: S) h = if x = z then Run 152 497 L S h else Run 152 561 L S h := RbrN (c := cnd .ne x z = true) (off := 67) rfl rfl cnd_ne
set_option maxRecDepth 100000 in
theorem e152_497 {L : Lo} {S : List Value} {h : Hp} {x0 : Option Value} {v : Nat} : Run 152 497 (x0 :: some (.ref v) :: L) S h = Run 152 498 (x0 :: some (.ref v) :: L) (.ref v :: S) h := Rg rfl
set_option maxRecDepth 100000 in
theorem e152_498 {L : Lo} {S : List Value} {h : Hp} : Run 152 498 L S h = Run 152 499 L (.int 2 :: S) h := Rg rfl
set_option maxRecDepth 100000 in
theorem e152_499 {L : Lo} {h : Hp} {a1 : Int32} {a0 : Nat} : Run 152 499 L [.int a1, .ref a0] h = (Run 125 0 [some (.ref a0), some (.int a1), none] [] h).bind fun o => aft 152 499 502 L [] o := Rc (c := 125) (As := [.ref a0, .int a1]) (S' := []) (pc' := 502) rfl
set_option maxRecDepth 100000 in
theorem e152_502 {L : Lo} {S : List Value} {h : Hp} {x0 x1 x2 x3 x4 x5 x6 x7 x8 x9 x10 : Option Value} {y : Option Value} {v : Int32} : Run 152 502 (x0 :: x1 :: x2 :: x3 :: x4 :: x5 :: x6 :: x7 :: x8 :: x9 :: x10 :: y :: L) (.int v :: S) h = Run 152 504 (x0 :: x1 :: x2 :: x3 :: x4 :: x5 :: x6 :: x7 :: x8 :: x9 :: ck x10 :: some (.int v) :: L) S h := Rg rfl
set_option maxRecDepth 100000 in
theorem e152_504 {L : Lo} {S : List Value} {h : Hp} {x0 x1 x2 x3 x4 : Option Value} {v : Int32} : Run 152 504 (x0 :: x1 :: x2 :: x3 :: x4 :: some (.int v) :: L) S h = Run 152 506 (x0 :: x1 :: x2 :: x3 :: x4 :: some (.int v) :: L) (.int v :: S) h := Rg rfl
set_option maxRecDepth 100000 in
theorem e152_506 {L : Lo} {S : List Value} {h : Hp} : Run 152 506 L S h = Run 152 508 L (.int 6 :: S) h := Rg rfl
set_option maxRecDepth 100000 in
theorem e152_508 {L : Lo} {h : Hp} {a1 : Int32} {a0 : Int32} : Run 152 508 L [.int a1, .int a0] h = (Run 120 0 [some (.int a0), some (.int a1)] [] h).bind fun o => aft 152 508 511 L [] o := Rc (c := 120) (As := [.int a0, .int a1]) (S' := []) (pc' := 511) rfl
set_option maxRecDepth 100000 in
theorem e152_511 {L : Lo} {S : List Value} {h : Hp} {x0 x1 x2 x3 x4 x5 x6 x7 x8 x9 x10 x11 : Option Value} {y : Option Value} {v : Int32} : Run 152 511 (x0 :: x1 :: x2 :: x3 :: x4 :: x5 :: x6 :: x7 :: x8 :: x9 :: x10 :: x11 :: y :: L) (.int v :: S) h = Run 152 513 (x0 :: x1 :: x2 :: x3 :: x4 :: x5 :: x6 :: x7 :: x8 :: x9 :: x10 :: ck x11 :: some (.int v) :: L) S h := Rg rfl
set_option maxRecDepth 100000 in
theorem e152_513 {L : Lo} {S : List Value} {h : Hp} {x0 x1 x2 x3 x4 : Option Value} {v : Int32} : Run 152 513 (x0 :: x1 :: x2 :: x3 :: x4 :: some (.int v) :: L) S h = Run 152 515 (x0 :: x1 :: x2 :: x3 :: x4 :: some (.int v) :: L) (.int v :: S) h := Rg rfl
set_option maxRecDepth 100000 in
theorem e152_515 {L : Lo} {S : List Value} {h : Hp} : Run 152 515 L S h = Run 152 516 L (.int 3 :: S) h := Rg rfl
set_option maxRecDepth 100000 in
theorem e152_516 {L : Lo} {S : List Value} {h : Hp} {x z : Int32} : Run 152 516 L (.int z :: .int x :: S) h = Run 152 517 L (.int (x >>> (z &&& 31)) :: S) h := Rg rfl
set_option maxRecDepth 100000 in
theorem e152_517 {L : Lo} {S : List Value} {h : Hp} : Run 152 517 L S h = Run 152 518 L (.int 4 :: S) h := Rg rfl
set_option maxRecDepth 100000 in
theorem e152_518 {L : Lo} {h : Hp} {a1 : Int32} {a0 : Int32} : Run 152 518 L [.int a1, .int a0] h = (Run 120 0 [some (.int a0), some (.int a1)] [] h).bind fun o => aft 152 518 521 L [] o := Rc (c := 120) (As := [.int a0, .int a1]) (S' := []) (pc' := 521) rfl
set_option maxRecDepth 100000 in
theorem e152_521 {L : Lo} {S : List Value} {h : Hp} {x0 x1 x2 x3 x4 x5 x6 x7 x8 x9 x10 x11 x12 : Option Value} {y : Option Value} {v : Int32} : Run 152 521 (x0 :: x1 :: x2 :: x3 :: x4 :: x5 :: x6 :: x7 :: x8 :: x9 :: x10 :: x11 :: x12 :: y :: L) (.int v :: S) h = Run 152 523 (x0 :: x1 :: x2 :: x3 :: x4 :: x5 :: x6 :: x7 :: x8 :: x9 :: x10 :: x11 :: ck x12 :: some (.int v) :: L) S h := Rg rfl
set_option maxRecDepth 100000 in
theorem e152_523 {L : Lo} {S : List Value} {h : Hp} {x0 : Option Value} {v : Nat} : Run 152 523 (x0 :: some (.ref v) :: L) S h = Run 152 524 (x0 :: some (.ref v) :: L) (.ref v :: S) h := Rg rfl
set_option maxRecDepth 100000 in
theorem e152_524 {L : Lo} {S : List Value} {h : Hp} {x0 x1 x2 x3 x4 x5 x6 x7 x8 x9 x10 x11 : Option Value} {v : Int32} : Run 152 524 (x0 :: x1 :: x2 :: x3 :: x4 :: x5 :: x6 :: x7 :: x8 :: x9 :: x10 :: x11 :: some (.int v) :: L) S h = Run 152 526 (x0 :: x1 :: x2 :: x3 :: x4 :: x5 :: x6 :: x7 :: x8 :: x9 :: x10 :: x11 :: some (.int v) :: L) (.int v :: S) h := Rg rfl
set_option maxRecDepth 100000 in
theorem e152_526 {L : Lo} {S : List Value} {h : Hp} {x0 x1 x2 x3 x4 x5 x6 x7 x8 x9 x10 x11 x12 : Option Value} {v : Int32} : Run 152 526 (x0 :: x1 :: x2 :: x3 :: x4 :: x5 :: x6 :: x7 :: x8 :: x9 :: x10 :: x11 :: x12 :: some (.int v) :: L) S h = Run 152 528 (x0 :: x1 :: x2 :: x3 :: x4 :: x5 :: x6 :: x7 :: x8 :: x9 :: x10 :: x11 :: x12 :: some (.int v) :: L) (.int v :: S) h := Rg rfl
set_option maxRecDepth 100000 in
theorem e152_528 {L : Lo} {h : Hp} {a2 : Int32} {a1 : Int32} {a0 : Nat} : Run 152 528 L [.int a2, .int a1, .ref a0] h = (Run 123 0 [some (.ref a0), some (.int a1), some (.int a2), none] [] h).bind fun o => aft 152 528 531 L [] o := Rc (c := 123) (As := [.ref a0, .int a1, .int a2]) (S' := []) (pc' := 531) rfl
set_option maxRecDepth 100000 in
theorem e152_531 {L : Lo} {S : List Value} {h : Hp} {x0 x1 x2 x3 x4 x5 x6 x7 x8 x9 x10 : Option Value} {v : Int32} : Run 152 531 (x0 :: x1 :: x2 :: x3 :: x4 :: x5 :: x6 :: x7 :: x8 :: x9 :: x10 :: some (.int v) :: L) S h = Run 152 533 (x0 :: x1 :: x2 :: x3 :: x4 :: x5 :: x6 :: x7 :: x8 :: x9 :: x10 :: some (.int v) :: L) (.int v :: S) h := Rg rfl
set_option maxRecDepth 100000 in
theorem e152_533 {L : Lo} {S : List Value} {h : Hp} {x z : Int32} : Run 152 533 L (.int z :: .int x :: S) h = if x = z then Run 152 536 L S h else Run 152 556 L S h := RbrN (c := cnd .ne x z = true) (off := 23) rfl rfl cnd_ne
set_option maxRecDepth 100000 in
theorem e152_536 {L : Lo} {S : List Value} {h : Hp} {x0 : Option Value} {v : Nat} : Run 152 536 (x0 :: some (.ref v) :: L) S h = Run 152 537 (x0 :: some (.ref v) :: L) (.ref v :: S) h := Rg rfl
set_option maxRecDepth 100000 in
theorem e152_537 {L : Lo} {S : List Value} {h : Hp} : Run 152 537 L S h = Run 152 538 L (.int 2 :: S) h := Rg rfl
set_option maxRecDepth 100000 in
theorem e152_538 {L : Lo} {h : Hp} {a1 : Int32} {a0 : Nat} : Run 152 538 L [.int a1, .ref a0] h = (Run 125 0 [some (.ref a0), some (.int a1), none] [] h).bind fun o => aft 152 538 541 L [] o := Rc (c := 125) (As := [.ref a0, .int a1]) (S' := []) (pc' := 541) rfl
set_option maxRecDepth 100000 in
theorem e152_541 {L : Lo} {S : List Value} {h : Hp} {x0 x1 x2 x3 x4 x5 x6 x7 x8 x9 x10 x11 : Option Value} {v : Int32} : Run 152 541 (x0 :: x1 :: x2 :: x3 :: x4 :: x5 :: x6 :: x7 :: x8 :: x9 :: x10 :: x11 :: some (.int v) :: L) S h = Run 152 543 (x0 :: x1 :: x2 :: x3 :: x4 :: x5 :: x6 :: x7 :: x8 :: x9 :: x10 :: x11 :: some (.int v) :: L) (.int v :: S) h := Rg rfl
set_option maxRecDepth 100000 in
theorem e152_543 {L : Lo} {S : List Value} {h : Hp} {x z : Int32} : Run 152 543 L (.int z :: .int x :: S) h = if x = z then Run 152 546 L S h else Run 152 556 L S h := RbrN (c := cnd .ne x z = true) (off := 13) rfl rfl cnd_ne
set_option maxRecDepth 100000 in
theorem e152_546 {L : Lo} {S : List Value} {h : Hp} {x0 : Option Value} {v : Nat} : Run 152 546 (x0 :: some (.ref v) :: L) S h = Run 152 547 (x0 :: some (.ref v) :: L) (.ref v :: S) h := Rg rfl
set_option maxRecDepth 100000 in
theorem e152_547 {L : Lo} {S : List Value} {h : Hp} : Run 152 547 L S h = Run 152 548 L (.int 3 :: S) h := Rg rfl
set_option maxRecDepth 100000 in
theorem e152_548 {L : Lo} {h : Hp} {a1 : Int32} {a0 : Nat} : Run 152 548 L [.int a1, .ref a0] h = (Run 125 0 [some (.ref a0), some (.int a1), none] [] h).bind fun o => aft 152 548 551 L [] o := Rc (c := 125) (As := [.ref a0, .int a1]) (S' := []) (pc' := 551) rfl
set_option maxRecDepth 100000 in
theorem e152_551 {L : Lo} {S : List Value} {h : Hp} {x0 x1 x2 x3 x4 x5 x6 x7 x8 x9 x10 x11 x12 : Option Value} {v : Int32} : Run 152 551 (x0 :: x1 :: x2 :: x3 :: x4 :: x5 :: x6 :: x7 :: x8 :: x9 :: x10 :: x11 :: x12 :: some (.int v) :: L) S h = Run 152 553 (x0 :: x1 :: x2 :: x3 :: x4 :: x5 :: x6 :: x7 :: x8 :: x9 :: x10 :: x11 :: x12 :: some (.int v) :: L) (.int v :: S) h := Rg rfl
set_option maxRecDepth 100000 in
theorem e152_553 {L : Lo} {S : List Value} {h : Hp} {x z : Int32} : Run 152 553 L (.int z :: .int x :: S) h = if x = z then Run 152 558 L S h else Run 152 556 L S h := Rbr (c := cnd .eq x z = true) (off := 5) rfl rfl cnd_eq
set_option maxRecDepth 100000 in
theorem e152_556 {L : Lo} {S : List Value} {h : Hp} : Run 152 556 L S h = Run 152 557 L (.int 0 :: S) h := Rg rfl
set_option maxRecDepth 100000 in
theorem e152_557 {L : Lo} {h : Hp} {x : Int32} (hx : narrow .boolean (.int x) = .int x) : Run 152 557 L [.int x] h = some (.inl (some (.int x)), h) := Rd (if_pos hx)
set_option maxRecDepth 100000 in
theorem e152_558 {L : Lo} {S : List Value} {h : Hp} : Run 152 558 L S h = Run 152 649 L S h := Rg rfl
set_option maxRecDepth 100000 in
theorem e152_561 {L : Lo} {S : List Value} {h : Hp} {x0 x1 x2 x3 x4 x5 : Option Value} {v : Int32} : Run 152 561 (x0 :: x1 :: x2 :: x3 :: x4 :: x5 :: some (.int v) :: L) S h = Run 152 563 (x0 :: x1 :: x2 :: x3 :: x4 :: x5 :: some (.int v) :: L) (.int v :: S) h := Rg rfl
set_option maxRecDepth 100000 in
theorem e152_563 {L : Lo} {S : List Value} {h : Hp} {x : Int32} : Run 152 563 L (.int x :: S) h = if x ≤ 0 then Run 152 649 L S h else Run 152 566 L S h := Rbr (c := cnd .le x 0 = true) (off := 86) rfl rfl cnd_le
set_option maxRecDepth 100000 in
theorem e152_566 {L : Lo} {S : List Value} {h : Hp} {x0 x1 x2 x3 x4 x5 x6 : Option Value} {v : Int32} : Run 152 566 (x0 :: x1 :: x2 :: x3 :: x4 :: x5 :: x6 :: some (.int v) :: L) S h = Run 152 568 (x0 :: x1 :: x2 :: x3 :: x4 :: x5 :: x6 :: some (.int v) :: L) (.int v :: S) h := Rg rfl
set_option maxRecDepth 100000 in
theorem e152_568 {L : Lo} {S : List Value} {h : Hp} : Run 152 568 L S h = Run 152 570 L (.int 8 :: S) h := Rg rfl
set_option maxRecDepth 100000 in
theorem e152_570 {L : Lo} {S : List Value} {h : Hp} {x z : Int32} : Run 152 570 L (.int z :: .int x :: S) h = if z ≤ x then Run 152 587 L S h else Run 152 573 L S h := Rbr (c := cnd .ge x z = true) (off := 17) rfl rfl cnd_ge
set_option maxRecDepth 100000 in
theorem e152_573 {L : Lo} {S : List Value} {h : Hp} {x0 : Option Value} {v : Nat} : Run 152 573 (x0 :: some (.ref v) :: L) S h = Run 152 574 (x0 :: some (.ref v) :: L) (.ref v :: S) h := Rg rfl
set_option maxRecDepth 100000 in
theorem e152_574 {L : Lo} {S : List Value} {h : Hp} {x0 x1 x2 x3 x4 x5 x6 x7 : Option Value} {v : Int32} : Run 152 574 (x0 :: x1 :: x2 :: x3 :: x4 :: x5 :: x6 :: x7 :: some (.int v) :: L) S h = Run 152 576 (x0 :: x1 :: x2 :: x3 :: x4 :: x5 :: x6 :: x7 :: some (.int v) :: L) (.int v :: S) h := Rg rfl
set_option maxRecDepth 100000 in
theorem e152_576 {L : Lo} {S : List Value} {h : Hp} {x0 x1 x2 x3 x4 : Option Value} {v : Int32} : Run 152 576 (x0 :: x1 :: x2 :: x3 :: x4 :: some (.int v) :: L) S h = Run 152 578 (x0 :: x1 :: x2 :: x3 :: x4 :: some (.int v) :: L) (.int v :: S) h := Rg rfl
set_option maxRecDepth 100000 in
theorem e152_578 {L : Lo} {h : Hp} {a2 : Int32} {a1 : Int32} {a0 : Nat} : Run 152 578 L [.int a2, .int a1, .ref a0] h = (Run 147 0 [some (.ref a0), some (.int a1), some (.int a2), none, none, none, none, none, none, none] [] h).bind fun o => aft 152 578 581 L [] o := Rc (c := 147) (As := [.ref a0, .int a1, .int a2]) (S' := []) (pc' := 581) rfl
set_option maxRecDepth 100000 in
theorem e152_581 {L : Lo} {S : List Value} {h : Hp} {x : Int32} : Run 152 581 L (.int x :: S) h = if x = 0 then Run 152 584 L S h else Run 152 649 L S h := RbrN (c := cnd .ne x 0 = true) (off := 68) rfl rfl cnd_ne
set_option maxRecDepth 100000 in
theorem e152_584 {L : Lo} {S : List Value} {h : Hp} : Run 152 584 L S h = Run 152 647 L S h := Rg rfl
set_option maxRecDepth 100000 in
theorem e152_587 {L : Lo} {S : List Value} {h : Hp} {x0 x1 x2 x3 x4 x5 x6 : Option Value} {v : Int32} : Run 152 587 (x0 :: x1 :: x2 :: x3 :: x4 :: x5 :: x6 :: some (.int v) :: L) S h = Run 152 589 (x0 :: x1 :: x2 :: x3 :: x4 :: x5 :: x6 :: some (.int v) :: L) (.int v :: S) h := Rg rfl
set_option maxRecDepth 100000 in
theorem e152_589 {L : Lo} {S : List Value} {h : Hp} : Run 152 589 L S h = Run 152 591 L (.int 11 :: S) h := Rg rfl
set_option maxRecDepth 100000 in
theorem e152_591 {L : Lo} {S : List Value} {h : Hp} {x z : Int32} : Run 152 591 L (.int z :: .int x :: S) h = if z ≤ x then Run 152 610 L S h else Run 152 594 L S h := Rbr (c := cnd .ge x z = true) (off := 19) rfl rfl cnd_ge
set_option maxRecDepth 100000 in
theorem e152_594 {L : Lo} {S : List Value} {h : Hp} {x0 : Option Value} {v : Nat} : Run 152 594 (x0 :: some (.ref v) :: L) S h = Run 152 595 (x0 :: some (.ref v) :: L) (.ref v :: S) h := Rg rfl
set_option maxRecDepth 100000 in
theorem e152_595 {L : Lo} {S : List Value} {h : Hp} {x0 x1 x2 x3 x4 x5 x6 x7 : Option Value} {v : Int32} : Run 152 595 (x0 :: x1 :: x2 :: x3 :: x4 :: x5 :: x6 :: x7 :: some (.int v) :: L) S h = Run 152 597 (x0 :: x1 :: x2 :: x3 :: x4 :: x5 :: x6 :: x7 :: some (.int v) :: L) (.int v :: S) h := Rg rfl
set_option maxRecDepth 100000 in
theorem e152_597 {L : Lo} {S : List Value} {h : Hp} {x0 x1 x2 x3 x4 x5 x6 x7 x8 : Option Value} {v : Int32} : Run 152 597 (x0 :: x1 :: x2 :: x3 :: x4 :: x5 :: x6 :: x7 :: x8 :: some (.int v) :: L) S h = Run 152 599 (x0 :: x1 :: x2 :: x3 :: x4 :: x5 :: x6 :: x7 :: x8 :: some (.int v) :: L) (.int v :: S) h := Rg rfl
set_option maxRecDepth 100000 in
theorem e152_599 {L : Lo} {S : List Value} {h : Hp} {x0 x1 x2 x3 x4 : Option Value} {v : Int32} : Run 152 599 (x0 :: x1 :: x2 :: x3 :: x4 :: some (.int v) :: L) S h = Run 152 601 (x0 :: x1 :: x2 :: x3 :: x4 :: some (.int v) :: L) (.int v :: S) h := Rg rfl
set_option maxRecDepth 100000 in
theorem e152_601 {L : Lo} {h : Hp} {a3 : Int32} {a2 : Int32} {a1 : Int32} {a0 : Nat} : Run 152 601 L [.int a3, .int a2, .int a1, .ref a0] h = (Run 148 0 [some (.ref a0), some (.int a1), some (.int a2), some (.int a3), none, none, none, none, none, none, none, none, none, none, none, none, none] [] h).bind fun o => aft 152 601 604 L [] o := Rc (c := 148) (As := [.ref a0, .int a1, .int a2, .int a3]) (S' := []) (pc' := 604) rfl
set_option maxRecDepth 100000 in
theorem e152_604 {L : Lo} {S : List Value} {h : Hp} {x : Int32} : Run 152 604 L (.int x :: S) h = if x = 0 then Run 152 607 L S h else Run 152 649 L S h := RbrN (c := cnd .ne x 0 = true) (off := 45) rfl rfl cnd_ne
set_option maxRecDepth 100000 in
theorem e152_607 {L : Lo} {S : List Value} {h : Hp} : Run 152 607 L S h = Run 152 647 L S h := Rg rfl
set_option maxRecDepth 100000 in
theorem e152_610 {L : Lo} {S : List Value} {h : Hp} {x0 x1 x2 x3 x4 x5 x6 : Option Value} {v : Int32} : Run 152 610 (x0 :: x1 :: x2 :: x3 :: x4 :: x5 :: x6 :: some (.int v) :: L) S h = Run 152 612 (x0 :: x1 :: x2 :: x3 :: x4 :: x5 :: x6 :: some (.int v) :: L) (.int v :: S) h := Rg rfl
set_option maxRecDepth 100000 in
theorem e152_612 {L : Lo} {S : List Value} {h : Hp} : Run 152 612 L S h = Run 152 614 L (.int 13 :: S) h := Rg rfl
set_option maxRecDepth 100000 in
theorem e152_614 {L : Lo} {S : List Value} {h : Hp} {x z : Int32} : Run 152 614 L (.int z :: .int x :: S) h = if z ≤ x then Run 152 633 L S h else Run 152 617 L S h := Rbr (c := cnd .ge x z = true) (off := 19) rfl rfl cnd_ge
set_option maxRecDepth 100000 in
theorem e152_617 {L : Lo} {S : List Value} {h : Hp} {x0 : Option Value} {v : Nat} : Run 152 617 (x0 :: some (.ref v) :: L) S h = Run 152 618 (x0 :: some (.ref v) :: L) (.ref v :: S) h := Rg rfl
set_option maxRecDepth 100000 in
theorem e152_618 {L : Lo} {S : List Value} {h : Hp} {x0 x1 x2 x3 x4 x5 x6 x7 : Option Value} {v : Int32} : Run 152 618 (x0 :: x1 :: x2 :: x3 :: x4 :: x5 :: x6 :: x7 :: some (.int v) :: L) S h = Run 152 620 (x0 :: x1 :: x2 :: x3 :: x4 :: x5 :: x6 :: x7 :: some (.int v) :: L) (.int v :: S) h := Rg rfl
set_option maxRecDepth 100000 in
theorem e152_620 {L : Lo} {S : List Value} {h : Hp} {x0 x1 x2 x3 x4 x5 x6 x7 x8 : Option Value} {v : Int32} : Run 152 620 (x0 :: x1 :: x2 :: x3 :: x4 :: x5 :: x6 :: x7 :: x8 :: some (.int v) :: L) S h = Run 152 622 (x0 :: x1 :: x2 :: x3 :: x4 :: x5 :: x6 :: x7 :: x8 :: some (.int v) :: L) (.int v :: S) h := Rg rfl
set_option maxRecDepth 100000 in
theorem e152_622 {L : Lo} {S : List Value} {h : Hp} {x0 x1 x2 x3 x4 : Option Value} {v : Int32} : Run 152 622 (x0 :: x1 :: x2 :: x3 :: x4 :: some (.int v) :: L) S h = Run 152 624 (x0 :: x1 :: x2 :: x3 :: x4 :: some (.int v) :: L) (.int v :: S) h := Rg rfl
set_option maxRecDepth 100000 in
theorem e152_624 {L : Lo} {h : Hp} {a3 : Int32} {a2 : Int32} {a1 : Int32} {a0 : Nat} : Run 152 624 L [.int a3, .int a2, .int a1, .ref a0] h = (Run 149 0 [some (.ref a0), some (.int a1), some (.int a2), some (.int a3), none, none, none, none, none, none, none, none, none, none] [] h).bind fun o => aft 152 624 627 L [] o := Rc (c := 149) (As := [.ref a0, .int a1, .int a2, .int a3]) (S' := []) (pc' := 627) rfl
set_option maxRecDepth 100000 in
theorem e152_627 {L : Lo} {S : List Value} {h : Hp} {x : Int32} : Run 152 627 L (.int x :: S) h = if x = 0 then Run 152 630 L S h else Run 152 649 L S h := RbrN (c := cnd .ne x 0 = true) (off := 22) rfl rfl cnd_ne
set_option maxRecDepth 100000 in
theorem e152_630 {L : Lo} {S : List Value} {h : Hp} : Run 152 630 L S h = Run 152 647 L S h := Rg rfl
set_option maxRecDepth 100000 in
theorem e152_633 {L : Lo} {S : List Value} {h : Hp} {x0 x1 x2 x3 x4 x5 x6 : Option Value} {v : Int32} : Run 152 633 (x0 :: x1 :: x2 :: x3 :: x4 :: x5 :: x6 :: some (.int v) :: L) S h = Run 152 635 (x0 :: x1 :: x2 :: x3 :: x4 :: x5 :: x6 :: some (.int v) :: L) (.int v :: S) h := Rg rfl
set_option maxRecDepth 100000 in
theorem e152_635 {L : Lo} {S : List Value} {h : Hp} : Run 152 635 L S h = Run 152 637 L (.int 13 :: S) h := Rg rfl
set_option maxRecDepth 100000 in
theorem e152_637 {L : Lo} {S : List Value} {h : Hp} {x z : Int32} : Run 152 637 L (.int z :: .int x :: S) h = if x = z then Run 152 640 L S h else Run 152 649 L S h := RbrN (c := cnd .ne x z = true) (off := 12) rfl rfl cnd_ne
set_option maxRecDepth 100000 in
theorem e152_640 {L : Lo} {S : List Value} {h : Hp} {x0 : Option Value} {v : Nat} : Run 152 640 (x0 :: some (.ref v) :: L) S h = Run 152 641 (x0 :: some (.ref v) :: L) (.ref v :: S) h := Rg rfl
set_option maxRecDepth 100000 in
theorem e152_641 {L : Lo} {h : Hp} {a0 : Nat} : Run 152 641 L [.ref a0] h = (Run 150 0 [some (.ref a0), none, none, none, none, none, none] [] h).bind fun o => aft 152 641 644 L [] o := Rc (c := 150) (As := [.ref a0]) (S' := []) (pc' := 644) rfl
set_option maxRecDepth 100000 in
theorem e152_644 {L : Lo} {S : List Value} {h : Hp} {x : Int32} : Run 152 644 L (.int x :: S) h = if x = 0 then Run 152 647 L S h else Run 152 649 L S h := RbrN (c := cnd .ne x 0 = true) (off := 5) rfl rfl cnd_ne
set_option maxRecDepth 100000 in
theorem e152_647 {L : Lo} {S : List Value} {h : Hp} : Run 152 647 L S h = Run 152 648 L (.int 0 :: S) h := Rg rfl
set_option maxRecDepth 100000 in
theorem e152_648 {L : Lo} {h : Hp} {x : Int32} (hx : narrow .boolean (.int x) = .int x) : Run 152 648 L [.int x] h = some (.inl (some (.int x)), h) := Rd (if_pos hx)
set_option maxRecDepth 100000 in
theorem e152_649 {L : Lo} {S : List Value} {h : Hp} {x0 : Option Value} {v : Nat} : Run 152 649 (x0 :: some (.ref v) :: L) S h = Run 152 650 (x0 :: some (.ref v) :: L) (.ref v :: S) h := Rg rfl
set_option maxRecDepth 100000 in
theorem e152_650 {L : Lo} {h : Hp} {a0 : Nat} : Run 152 650 L [.ref a0] h = (Run 144 0 [some (.ref a0), none, none, none, none, none, none, none, none, none, none, none, none] [] h).bind fun o => aft 152 650 653 L [] o := Rc (c := 144) (As := [.ref a0]) (S' := []) (pc' := 653) rfl
set_option maxRecDepth 100000 in
theorem e152_653 {L : Lo} {S : List Value} {h : Hp} {x : Int32} : Run 152 653 L (.int x :: S) h = if x = 0 then Run 152 701 L S h else Run 152 656 L S h := Rbr (c := cnd .eq x 0 = true) (off := 48) rfl rfl cnd_eq
set_option maxRecDepth 100000 in
theorem e152_656 {L : Lo} {S : List Value} {h : Hp} {x0 : Option Value} {v : Nat} : Run 152 656 (x0 :: some (.ref v) :: L) S h = Run 152 657 (x0 :: some (.ref v) :: L) (.ref v :: S) h := Rg rfl
set_option maxRecDepth 100000 in
theorem e152_657 {L : Lo} {S : List Value} {h : Hp} {x0 x1 x2 x3 x4 : Option Value} {v : Int32} : Run 152 657 (x0 :: x1 :: x2 :: x3 :: x4 :: some (.int v) :: L) S h = Run 152 659 (x0 :: x1 :: x2 :: x3 :: x4 :: some (.int v) :: L) (.int v :: S) h := Rg rfl
set_option maxRecDepth 100000 in
theorem e152_659 {L : Lo} {h : Hp} {a1 : Int32} {a0 : Nat} : Run 152 659 L [.int a1, .ref a0] h = (Run 145 0 [some (.ref a0), some (.int a1), none, none, none, none, none, none, none, none] [] h).bind fun o => aft 152 659 662 L [] o := Rc (c := 145) (As := [.ref a0, .int a1]) (S' := []) (pc' := 662) rfl
set_option maxRecDepth 100000 in
theorem e152_662 {L : Lo} {S : List Value} {h : Hp} {x : Int32} : Run 152 662 L (.int x :: S) h = if x = 0 then Run 152 701 L S h else Run 152 665 L S h := Rbr (c := cnd .eq x 0 = true) (off := 39) rfl rfl cnd_eq
set_option maxRecDepth 100000 in
theorem e152_665 {L : Lo} {S : List Value} {h : Hp} {x0 x1 x2 : Option Value} {v : Int32} : Run 152 665 (x0 :: x1 :: x2 :: some (.int v) :: L) S h = Run 152 666 (x0 :: x1 :: x2 :: some (.int v) :: L) (.int v :: S) h := Rg rfl
set_option maxRecDepth 100000 in
theorem e152_666 {L : Lo} {S : List Value} {h : Hp} : Run 152 666 L S h = Run 152 668 L (.int 8 :: S) h := Rg rfl
set_option maxRecDepth 100000 in
theorem e152_668 {L : Lo} {S : List Value} {h : Hp} {x z : Int32} (hz : ¬ z = 0) : Run 152 668 L (.int z :: .int x :: S) h = Run 152 669 L (.int (x - x / z * z) :: S) h := Rg (if_neg hz)
set_option maxRecDepth 100000 in
theorem e152_669 {L : Lo} {S : List Value} {h : Hp} : Run 152 669 L S h = Run 152 671 L (.int 7 :: S) h := Rg rfl
set_option maxRecDepth 100000 in
theorem e152_671 {L : Lo} {S : List Value} {h : Hp} {x z : Int32} : Run 152 671 L (.int z :: .int x :: S) h = if x = z then Run 152 674 L S h else Run 152 703 L S h := RbrN (c := cnd .ne x z = true) (off := 32) rfl rfl cnd_ne
set_option maxRecDepth 100000 in
theorem e152_674 {L : Lo} {S : List Value} {h : Hp} {x0 : Option Value} {v : Nat} : Run 152 674 (x0 :: some (.ref v) :: L) S h = Run 152 675 (x0 :: some (.ref v) :: L) (.ref v :: S) h := Rg rfl
set_option maxRecDepth 100000 in
theorem e152_675 {L : Lo} {S : List Value} {h : Hp} : Run 152 675 L S h = Run 152 676 L (.int 5 :: S) h := Rg rfl
set_option maxRecDepth 100000 in
theorem e152_676 {L : Lo} {h : Hp} {a1 : Int32} {a0 : Nat} : Run 152 676 L [.int a1, .ref a0] h = (Run 125 0 [some (.ref a0), some (.int a1), none] [] h).bind fun o => aft 152 676 679 L [] o := Rc (c := 125) (As := [.ref a0, .int a1]) (S' := []) (pc' := 679) rfl
set_option maxRecDepth 100000 in
theorem e152_679 {L : Lo} {S : List Value} {h : Hp} {x : Int32} : Run 152 679 L (.int x :: S) h = if x ≤ 0 then Run 152 703 L S h else Run 152 682 L S h := Rbr (c := cnd .le x 0 = true) (off := 24) rfl rfl cnd_le
set_option maxRecDepth 100000 in
theorem e152_682 {L : Lo} {S : List Value} {h : Hp} {x0 : Option Value} {v : Nat} : Run 152 682 (x0 :: some (.ref v) :: L) S h = Run 152 683 (x0 :: some (.ref v) :: L) (.ref v :: S) h := Rg rfl
set_option maxRecDepth 100000 in
theorem e152_683 {L : Lo} {S : List Value} {h : Hp} {x0 x1 x2 x3 x4 : Option Value} {v : Int32} : Run 152 683 (x0 :: x1 :: x2 :: x3 :: x4 :: some (.int v) :: L) S h = Run 152 685 (x0 :: x1 :: x2 :: x3 :: x4 :: some (.int v) :: L) (.int v :: S) h := Rg rfl
set_option maxRecDepth 100000 in
theorem e152_685 {L : Lo} {S : List Value} {h : Hp} : Run 152 685 L S h = Run 152 686 L (.int 5 :: S) h := Rg rfl
set_option maxRecDepth 100000 in
theorem e152_686 {L : Lo} {S : List Value} {h : Hp} {x z : Int32} : Run 152 686 L (.int z :: .int x :: S) h = Run 152 687 L (.int (x >>> (z &&& 31)) :: S) h := Rg rfl
set_option maxRecDepth 100000 in
theorem e152_687 {L : Lo} {S : List Value} {h : Hp} {x0 : Option Value} {v : Nat} : Run 152 687 (x0 :: some (.ref v) :: L) S h = Run 152 688 (x0 :: some (.ref v) :: L) (.ref v :: S) h := Rg rfl
set_option maxRecDepth 100000 in
theorem e152_688 {L : Lo} {S : List Value} {h : Hp} : Run 152 688 L S h = Run 152 689 L (.int 5 :: S) h := Rg rfl
set_option maxRecDepth 100000 in
theorem e152_689 {L : Lo} {h : Hp} {a3 : Int32} {a2 : Nat} {a1 : Int32} {a0 : Nat} : Run 152 689 L [.int a3, .ref a2, .int a1, .ref a0] h = (Run 125 0 [some (.ref a2), some (.int a3), none] [] h).bind fun o => aft 152 689 692 L [.int a1, .ref a0] o := Rc (c := 125) (As := [.ref a2, .int a3]) (S' := [.int a1, .ref a0]) (pc' := 692) rfl
set_option maxRecDepth 100000 in
theorem e152_692 {L : Lo} {h : Hp} {a2 : Int32} {a1 : Int32} {a0 : Nat} : Run 152 692 L [.int a2, .int a1, .ref a0] h = (Run 120 0 [some (.int a1), some (.int a2)] [] h).bind fun o => aft 152 692 695 L [.ref a0] o := Rc (c := 120) (As := [.int a1, .int a2]) (S' := [.ref a0]) (pc' := 695) rfl
set_option maxRecDepth 100000 in
theorem e152_695 {L : Lo} {h : Hp} {a1 : Int32} {a0 : Nat} : Run 152 695 L [.int a1, .ref a0] h = (Run 146 0 [some (.ref a0), some (.int a1), none, none, none, none, none, none, none, none, none, none, none, none, none] [] h).bind fun o => aft 152 695 698 L [] o := Rc (c := 146) (As := [.ref a0, .int a1]) (S' := []) (pc' := 698) rfl
set_option maxRecDepth 100000 in
theorem e152_698 {L : Lo} {S : List Value} {h : Hp} {x : Int32} : Run 152 698 L (.int x :: S) h = if x = 0 then Run 152 701 L S h else Run 152 703 L S h := RbrN (c := cnd .ne x 0 = true) (off := 5) rfl rfl cnd_ne
set_option maxRecDepth 100000 in
theorem e152_701 {L : Lo} {S : List Value} {h : Hp} : Run 152 701 L S h = Run 152 702 L (.int 0 :: S) h := Rg rfl
set_option maxRecDepth 100000 in
theorem e152_702 {L : Lo} {h : Hp} {x : Int32} (hx : narrow .boolean (.int x) = .int x) : Run 152 702 L [.int x] h = some (.inl (some (.int x)), h) := Rd (if_pos hx)
set_option maxRecDepth 100000 in
theorem e152_703 {L : Lo} {S : List Value} {h : Hp} {x0 x1 x2 : Option Value} {v : Int32} : Run 152 703 (x0 :: x1 :: x2 :: some (.int v) :: L) S h = Run 152 706 (x0 :: x1 :: x2 :: some (.int (v + 1)) :: L) S h := Rg rfl
set_option maxRecDepth 100000 in
theorem e152_706 {L : Lo} {S : List Value} {h : Hp} : Run 152 706 L S h = Run 152 81 L S h := Rg rfl
set_option maxRecDepth 100000 in
theorem e152_709 {L : Lo} {S : List Value} {h : Hp} {x0 : Option Value} {v : Nat} : Run 152 709 (x0 :: some (.ref v) :: L) S h = Run 152 710 (x0 :: some (.ref v) :: L) (.ref v :: S) h := Rg rfl
set_option maxRecDepth 100000 in
theorem e152_710 {L : Lo} {h : Hp} {a0 : Nat} : Run 152 710 L [.ref a0] h = (Run 151 0 [some (.ref a0), none, none, none, none, none] [] h).bind fun o => aft 152 710 713 L [] o := Rc (c := 151) (As := [.ref a0]) (S' := []) (pc' := 713) rfl
set_option maxRecDepth 100000 in
theorem e152_713 {L : Lo} {h : Hp} {x : Int32} (hx : narrow .boolean (.int x) = .int x) : Run 152 713 L [.int x] h = some (.inl (some (.int x)), h) := Rd (if_pos hx)
