set_option maxRecDepth 100000 in
theorem e208_0 {L : Lo} {S : List Value} {h : Hp} {v : Int32} : Run 208 0 (some (.int v) :: L) S h = Run 208 1 (some (.int v) :: L) (.int v :: S) h := Rg rfl
set_option maxRecDepth 100000 in
theorem e208_1 {L : Lo} {S : List Value} {h : Hp} {x0 : Option Value} {v : Int32} : Run 208 1 (x0 :: some (.int v) :: L) S h = Run 208 2 (x0 :: some (.int v) :: L) (.int v :: S) h := Rg rfl
set_option maxRecDepth 100000 in
theorem e208_2 {L : Lo} {S : List Value} {h : Hp} {x z : Int32} (hz : ¬ z = 0) : Run 208 2 L (.int z :: .int x :: S) h = Run 208 3 L (.int (x - x / z * z) :: S) h := Rg (if_neg hz)
set_option maxRecDepth 100000 in
theorem e208_3 {L : Lo} {S : List Value} {h : Hp} {x0 x1 : Option Value} {y : Option Value} {v : Int32} : Run 208 3 (x0 :: x1 :: y :: L) (.int v :: S) h = Run 208 4 (x0 :: ck x1 :: some (.int v) :: L) S h := Rg rfl
set_option maxRecDepth 100000 in
theorem e208_4 {L : Lo} {S : List Value} {h : Hp} {v : Int32} : Run 208 4 (some (.int v) :: L) S h = Run 208 5 (some (.int v) :: L) (.int v :: S) h := Rg rfl
set_option maxRecDepth 100000 in
theorem e208_5 {L : Lo} {S : List Value} {h : Hp} {x0 : Option Value} {v : Int32} : Run 208 5 (x0 :: some (.int v) :: L) S h = Run 208 6 (x0 :: some (.int v) :: L) (.int v :: S) h := Rg rfl
set_option maxRecDepth 100000 in
theorem e208_6 {L : Lo} {S : List Value} {h : Hp} {x z : Int32} : Run 208 6 L (.int z :: .int x :: S) h = Run 208 7 L (.int (x ^^^ z) :: S) h := Rg rfl
set_option maxRecDepth 100000 in
theorem e208_7 {L : Lo} {S : List Value} {h : Hp} {x : Int32} : Run 208 7 L (.int x :: S) h = if 0 ≤ x then Run 208 18 L S h else Run 208 10 L S h := Rbr (c := cnd .ge x 0 = true) (off := 11) rfl rfl cnd_ge
set_option maxRecDepth 100000 in
theorem e208_10 {L : Lo} {S : List Value} {h : Hp} {x0 x1 : Option Value} {v : Int32} : Run 208 10 (x0 :: x1 :: some (.int v) :: L) S h = Run 208 11 (x0 :: x1 :: some (.int v) :: L) (.int v :: S) h := Rg rfl
set_option maxRecDepth 100000 in
theorem e208_11 {L : Lo} {S : List Value} {h : Hp} {x : Int32} : Run 208 11 L (.int x :: S) h = if x = 0 then Run 208 18 L S h else Run 208 14 L S h := Rbr (c := cnd .eq x 0 = true) (off := 7) rfl rfl cnd_eq
set_option maxRecDepth 100000 in
theorem e208_14 {L : Lo} {S : List Value} {h : Hp} {x0 x1 : Option Value} {v : Int32} : Run 208 14 (x0 :: x1 :: some (.int v) :: L) S h = Run 208 15 (x0 :: x1 :: some (.int v) :: L) (.int v :: S) h := Rg rfl
set_option maxRecDepth 100000 in
theorem e208_15 {L : Lo} {S : List Value} {h : Hp} {x0 : Option Value} {v : Int32} : Run 208 15 (x0 :: some (.int v) :: L) S h = Run 208 16 (x0 :: some (.int v) :: L) (.int v :: S) h := Rg rfl
set_option maxRecDepth 100000 in
theorem e208_16 {L : Lo} {S : List Value} {h : Hp} {x z : Int32} : Run 208 16 L (.int z :: .int x :: S) h = Run 208 17 L (.int (x + z) :: S) h := Rg rfl
set_option maxRecDepth 100000 in
theorem e208_17 {L : Lo} {h : Hp} {x : Int32} : Run 208 17 L [.int x] h = some (.inl (some (.int x)), h) := Rd (if_pos (c := narrow .int (.int x) = .int x) rfl)
set_option maxRecDepth 100000 in
theorem e208_18 {L : Lo} {S : List Value} {h : Hp} {x0 x1 : Option Value} {v : Int32} : Run 208 18 (x0 :: x1 :: some (.int v) :: L) S h = Run 208 19 (x0 :: x1 :: some (.int v) :: L) (.int v :: S) h := Rg rfl
set_option maxRecDepth 100000 in
theorem e208_19 {L : Lo} {h : Hp} {x : Int32} : Run 208 19 L [.int x] h = some (.inl (some (.int x)), h) := Rd (if_pos (c := narrow .int (.int x) = .int x) rfl)
set_option maxRecDepth 100000 in
theorem e209_0 {L : Lo} {S : List Value} {h : Hp} {v : Int32} : Run 209 0 (some (.int v) :: L) S h = Run 209 1 (some (.int v) :: L) (.int v :: S) h := Rg rfl
set_option maxRecDepth 100000 in
theorem e209_1 {L : Lo} {S : List Value} {h : Hp} {x : Int32} : Run 209 1 L (.int x :: S) h = if 0 ≤ x then Run 209 9 L S h else Run 209 4 L S h := Rbr (c := cnd .ge x 0 = true) (off := 8) rfl rfl cnd_ge
set_option maxRecDepth 100000 in
theorem e209_4 {L : Lo} {S : List Value} {h : Hp} {v : Int32} : Run 209 4 (some (.int v) :: L) S h = Run 209 5 (some (.int v) :: L) (.int v :: S) h := Rg rfl
set_option maxRecDepth 100000 in
theorem e209_5 {L : Lo} {S : List Value} {h : Hp} {x : Int32} : Run 209 5 L (.int x :: S) h = Run 209 6 L (.int (-x) :: S) h := Rg rfl
set_option maxRecDepth 100000 in
theorem e209_6 {L : Lo} {S : List Value} {h : Hp} : Run 209 6 L S h = Run 209 10 L S h := Rg rfl
set_option maxRecDepth 100000 in
theorem e209_9 {L : Lo} {S : List Value} {h : Hp} {v : Int32} : Run 209 9 (some (.int v) :: L) S h = Run 209 10 (some (.int v) :: L) (.int v :: S) h := Rg rfl
set_option maxRecDepth 100000 in
theorem e209_10 {L : Lo} {h : Hp} {x : Int32} : Run 209 10 L [.int x] h = some (.inl (some (.int x)), h) := Rd (if_pos (c := narrow .int (.int x) = .int x) rfl)
set_option maxRecDepth 100000 in
theorem e210_0 {L : Lo} {S : List Value} {h : Hp} {v : Int32} : Run 210 0 (some (.int v) :: L) S h = Run 210 1 (some (.int v) :: L) (.int v :: S) h := Rg rfl
set_option maxRecDepth 100000 in
theorem e210_1 {L : Lo} {S : List Value} {h : Hp} {x0 : Option Value} {v : Int32} : Run 210 1 (x0 :: some (.int v) :: L) S h = Run 210 2 (x0 :: some (.int v) :: L) (.int v :: S) h := Rg rfl
set_option maxRecDepth 100000 in
theorem e210_2 {L : Lo} {S : List Value} {h : Hp} {x z : Int32} : Run 210 2 L (.int z :: .int x :: S) h = if x < z then Run 210 9 L S h else Run 210 5 L S h := Rbr (c := cnd .lt x z = true) (off := 7) rfl rfl cnd_lt
set_option maxRecDepth 100000 in
theorem e210_5 {L : Lo} {S : List Value} {h : Hp} {v : Int32} : Run 210 5 (some (.int v) :: L) S h = Run 210 6 (some (.int v) :: L) (.int v :: S) h := Rg rfl
set_option maxRecDepth 100000 in
theorem e210_6 {L : Lo} {S : List Value} {h : Hp} : Run 210 6 L S h = Run 210 10 L S h := Rg rfl
set_option maxRecDepth 100000 in
theorem e210_9 {L : Lo} {S : List Value} {h : Hp} {x0 : Option Value} {v : Int32} : Run 210 9 (x0 :: some (.int v) :: L) S h = Run 210 10 (x0 :: some (.int v) :: L) (.int v :: S) h := Rg rfl
set_option maxRecDepth 100000 in
theorem e210_10 {L : Lo} {h : Hp} {x : Int32} : Run 210 10 L [.int x] h = some (.inl (some (.int x)), h) := Rd (if_pos (c := narrow .int (.int x) = .int x) rfl)
set_option maxRecDepth 100000 in
theorem e211_0 {L : Lo} {S : List Value} {h : Hp} {v : Int32} : Run 211 0 (some (.int v) :: L) S h = Run 211 1 (some (.int v) :: L) (.int v :: S) h := Rg rfl
set_option maxRecDepth 100000 in
theorem e211_1 {L : Lo} {S : List Value} {h : Hp} {x0 : Option Value} {v : Int32} : Run 211 1 (x0 :: some (.int v) :: L) S h = Run 211 2 (x0 :: some (.int v) :: L) (.int v :: S) h := Rg rfl
set_option maxRecDepth 100000 in
theorem e211_2 {L : Lo} {S : List Value} {h : Hp} {x z : Int32} : Run 211 2 L (.int z :: .int x :: S) h = if z < x then Run 211 9 L S h else Run 211 5 L S h := Rbr (c := cnd .gt x z = true) (off := 7) rfl rfl cnd_gt
set_option maxRecDepth 100000 in
theorem e211_5 {L : Lo} {S : List Value} {h : Hp} {v : Int32} : Run 211 5 (some (.int v) :: L) S h = Run 211 6 (some (.int v) :: L) (.int v :: S) h := Rg rfl
set_option maxRecDepth 100000 in
theorem e211_6 {L : Lo} {S : List Value} {h : Hp} : Run 211 6 L S h = Run 211 10 L S h := Rg rfl
set_option maxRecDepth 100000 in
theorem e211_9 {L : Lo} {S : List Value} {h : Hp} {x0 : Option Value} {v : Int32} : Run 211 9 (x0 :: some (.int v) :: L) S h = Run 211 10 (x0 :: some (.int v) :: L) (.int v :: S) h := Rg rfl
set_option maxRecDepth 100000 in
theorem e211_10 {L : Lo} {h : Hp} {x : Int32} : Run 211 10 L [.int x] h = some (.inl (some (.int x)), h) := Rd (if_pos (c := narrow .int (.int x) = .int x) rfl)
set_option maxRecDepth 100000 in
theorem e212_0 {L : Lo} {S : List Value} {h : Hp} : Run 212 0 L S h = Run 212 1 L (.int 0 :: S) h := Rg rfl
set_option maxRecDepth 100000 in
theorem e212_1 {L : Lo} {S : List Value} {h : Hp} {x0 x1 : Option Value} {y : Option Value} {v : Int32} : Run 212 1 (x0 :: x1 :: y :: L) (.int v :: S) h = Run 212 2 (x0 :: ck x1 :: some (.int v) :: L) S h := Rg rfl
set_option maxRecDepth 100000 in
theorem e212_2 {L : Lo} {S : List Value} {h : Hp} {v : Nat} : Run 212 2 (some (.ref v) :: L) S h = Run 212 3 (some (.ref v) :: L) (.ref v :: S) h := Rg rfl
set_option maxRecDepth 100000 in
theorem e212_3 {L : Lo} {S : List Value} {h : Hp} {b : Nat} : Run 212 3 L (.ref b :: S) h = (alen h b).bind fun N => Run 212 4 L (.int (Int32.ofNat N) :: S) h := Rb rfl fun _ => rfl
set_option maxRecDepth 100000 in
theorem e212_4 {L : Lo} {S : List Value} {h : Hp} {x0 x1 x2 : Option Value} {y : Option Value} {v : Int32} : Run 212 4 (x0 :: x1 :: x2 :: y :: L) (.int v :: S) h = Run 212 5 (x0 :: x1 :: ck x2 :: some (.int v) :: L) S h := Rg rfl
set_option maxRecDepth 100000 in
theorem e212_5 {L : Lo} {S : List Value} {h : Hp} {x0 x1 : Option Value} {v : Int32} : Run 212 5 (x0 :: x1 :: some (.int v) :: L) S h = Run 212 6 (x0 :: x1 :: some (.int v) :: L) (.int v :: S) h := Rg rfl
set_option maxRecDepth 100000 in
theorem e212_6 {L : Lo} {S : List Value} {h : Hp} {x0 x1 x2 : Option Value} {v : Int32} : Run 212 6 (x0 :: x1 :: x2 :: some (.int v) :: L) S h = Run 212 7 (x0 :: x1 :: x2 :: some (.int v) :: L) (.int v :: S) h := Rg rfl
set_option maxRecDepth 100000 in
theorem e212_7 {L : Lo} {S : List Value} {h : Hp} {x z : Int32} : Run 212 7 L (.int z :: .int x :: S) h = if z ≤ x then Run 212 20 L S h else Run 212 10 L S h := Rbr (c := cnd .ge x z = true) (off := 13) rfl rfl cnd_ge
set_option maxRecDepth 100000 in
theorem e212_10 {L : Lo} {S : List Value} {h : Hp} {v : Nat} : Run 212 10 (some (.ref v) :: L) S h = Run 212 11 (some (.ref v) :: L) (.ref v :: S) h := Rg rfl
set_option maxRecDepth 100000 in
theorem e212_11 {L : Lo} {S : List Value} {h : Hp} {x0 x1 : Option Value} {v : Int32} : Run 212 11 (x0 :: x1 :: some (.int v) :: L) S h = Run 212 12 (x0 :: x1 :: some (.int v) :: L) (.int v :: S) h := Rg rfl
set_option maxRecDepth 100000 in
theorem e212_12 {L : Lo} {S : List Value} {h : Hp} {x0 : Option Value} {v : Int32} : Run 212 12 (x0 :: some (.int v) :: L) S h = Run 212 13 (x0 :: some (.int v) :: L) (.int v :: S) h := Rg rfl
set_option maxRecDepth 100000 in
theorem e212_13 {L : Lo} {S : List Value} {h : Hp} {v : Int32} {i : Int32} {b : Nat} : Run 212 13 L (.int v :: .int i :: .ref b :: S) h = (paI h b i v).bind fun h1 => Run 212 14 L S h1 := Rb rfl fun _ => rfl
set_option maxRecDepth 100000 in
theorem e212_14 {L : Lo} {S : List Value} {h : Hp} {x0 x1 : Option Value} {v : Int32} : Run 212 14 (x0 :: x1 :: some (.int v) :: L) S h = Run 212 17 (x0 :: x1 :: some (.int (v + 1)) :: L) S h := Rg rfl
set_option maxRecDepth 100000 in
theorem e212_17 {L : Lo} {S : List Value} {h : Hp} : Run 212 17 L S h = Run 212 5 L S h := Rg rfl
set_option maxRecDepth 100000 in
theorem e212_20 {L : Lo} {h : Hp} : Run 212 20 L [] h = some (.inl none, h) := Rd rfl
set_option maxRecDepth 100000 in
theorem e213_0 {L : Lo} {S : List Value} {h : Hp} {x0 x1 x2 : Option Value} {v : Nat} : Run 213 0 (x0 :: x1 :: x2 :: some (.ref v) :: L) S h = Run 213 1 (x0 :: x1 :: x2 :: some (.ref v) :: L) (.ref v :: S) h := Rg rfl
set_option maxRecDepth 100000 in
theorem e213_1 {L : Lo} {S : List Value} {h : Hp} : Run 213 1 L S h = Run 213 2 L (.int 0 :: S) h := Rg rfl
set_option maxRecDepth 100000 in
theorem e213_2 {L : Lo} {S : List Value} {h : Hp} {v : Nat} : Run 213 2 (some (.ref v) :: L) S h = Run 213 3 (some (.ref v) :: L) (.ref v :: S) h := Rg rfl
set_option maxRecDepth 100000 in
theorem e213_3 {L : Lo} {S : List Value} {h : Hp} {x0 : Option Value} {v : Int32} : Run 213 3 (x0 :: some (.int v) :: L) S h = Run 213 4 (x0 :: some (.int v) :: L) (.int v :: S) h := Rg rfl
set_option maxRecDepth 100000 in
theorem e213_4 {L : Lo} {S : List Value} {h : Hp} {x0 x1 : Option Value} {v : Int32} : Run 213 4 (x0 :: x1 :: some (.int v) :: L) S h = Run 213 5 (x0 :: x1 :: some (.int v) :: L) (.int v :: S) h := Rg rfl
set_option maxRecDepth 100000 in
theorem e213_5 {L : Lo} {h : Hp} {a4 : Int32} {a3 : Int32} {a2 : Nat} {a1 : Int32} {a0 : Nat} (hO : isO h a2 8 = true) : Run 213 5 L [.int a4, .int a3, .ref a2, .int a1, .ref a0] h = (Run 83 0 [some (.ref a2), some (.int a3), some (.int a4), none] [] h).bind fun o => aft 213 5 8 L [.int a1, .ref a0] o := Rcv (c := 83) (As := [.int a3, .int a4]) (S' := [.int a1, .ref a0]) (pc' := 8) 8 rfl hO
set_option maxRecDepth 100000 in
theorem e213_8 {L : Lo} {S : List Value} {h : Hp} {x : Int32} : Run 213 8 L (.int x :: S) h = Run 213 9 L (.long x.toInt64 :: S) h := Rg rfl
set_option maxRecDepth 100000 in
theorem e213_9 {L : Lo} {S : List Value} {h : Hp} {v : Int64} {i : Int32} {b : Nat} : Run 213 9 L (.long v :: .int i :: .ref b :: S) h = (paJ h b i v).bind fun h1 => Run 213 10 L S h1 := Rb rfl fun _ => rfl
set_option maxRecDepth 100000 in
theorem e213_10 {L : Lo} {S : List Value} {h : Hp} : Run 213 10 L S h = Run 213 17 L S h := Rg rfl
set_option maxRecDepth 100000 in
theorem e213_15 {L : Lo} {S : List Value} {h : Hp} : Run 213 15 L S h = Run 213 16 L (.int 1 :: S) h := Rg rfl
set_option maxRecDepth 100000 in
theorem e213_16 {L : Lo} {h : Hp} {x : Int32} : Run 213 16 L [.int x] h = some (.inl (some (.int x)), h) := Rd (if_pos (c := narrow .int (.int x) = .int x) rfl)
set_option maxRecDepth 100000 in
theorem e213_17 {L : Lo} {S : List Value} {h : Hp} : Run 213 17 L S h = Run 213 18 L (.int 0 :: S) h := Rg rfl
set_option maxRecDepth 100000 in
theorem e213_18 {L : Lo} {h : Hp} {x : Int32} : Run 213 18 L [.int x] h = some (.inl (some (.int x)), h) := Rd (if_pos (c := narrow .int (.int x) = .int x) rfl)
set_option maxRecDepth 100000 in
theorem e214_0 {L : Lo} {S : List Value} {h : Hp} {x0 x1 x2 : Option Value} {v : Nat} : Run 214 0 (x0 :: x1 :: x2 :: some (.ref v) :: L) S h = Run 214 1 (x0 :: x1 :: x2 :: some (.ref v) :: L) (.ref v :: S) h := Rg rfl
set_option maxRecDepth 100000 in
theorem e214_1 {L : Lo} {S : List Value} {h : Hp} : Run 214 1 L S h = Run 214 2 L (.int 0 :: S) h := Rg rfl
set_option maxRecDepth 100000 in
theorem e214_2 {L : Lo} {S : List Value} {h : Hp} {v : Nat} : Run 214 2 (some (.ref v) :: L) S h = Run 214 3 (some (.ref v) :: L) (.ref v :: S) h := Rg rfl
set_option maxRecDepth 100000 in
theorem e214_3 {L : Lo} {S : List Value} {h : Hp} {x0 : Option Value} {v : Int32} : Run 214 3 (x0 :: some (.int v) :: L) S h = Run 214 4 (x0 :: some (.int v) :: L) (.int v :: S) h := Rg rfl
set_option maxRecDepth 100000 in
theorem e214_4 {L : Lo} {S : List Value} {h : Hp} {x0 x1 : Option Value} {v : Int32} : Run 214 4 (x0 :: x1 :: some (.int v) :: L) S h = Run 214 5 (x0 :: x1 :: some (.int v) :: L) (.int v :: S) h := Rg rfl
set_option maxRecDepth 100000 in
theorem e214_5 {L : Lo} {h : Hp} {a4 : Int32} {a3 : Int32} {a2 : Nat} {a1 : Int32} {a0 : Nat} (hO : isO h a2 8 = true) : Run 214 5 L [.int a4, .int a3, .ref a2, .int a1, .ref a0] h = (Run 84 0 [some (.ref a2), some (.int a3), some (.int a4), none] [] h).bind fun o => aft 214 5 8 L [.int a1, .ref a0] o := Rcv (c := 84) (As := [.int a3, .int a4]) (S' := [.int a1, .ref a0]) (pc' := 8) 8 rfl hO
set_option maxRecDepth 100000 in
theorem e214_8 {L : Lo} {S : List Value} {h : Hp} {x : Int32} : Run 214 8 L (.int x :: S) h = Run 214 9 L (.long x.toInt64 :: S) h := Rg rfl
set_option maxRecDepth 100000 in
theorem e214_9 {L : Lo} {S : List Value} {h : Hp} {v : Int64} {i : Int32} {b : Nat} : Run 214 9 L (.long v :: .int i :: .ref b :: S) h = (paJ h b i v).bind fun h1 => Run 214 10 L S h1 := Rb rfl fun _ => rfl
set_option maxRecDepth 100000 in
theorem e214_10 {L : Lo} {S : List Value} {h : Hp} : Run 214 10 L S h = Run 214 21 L S h := Rg rfl
set_option maxRecDepth 100000 in
theorem e214_15 {L : Lo} {S : List Value} {h : Hp} : Run 214 15 L S h = Run 214 16 L (.int 1 :: S) h := Rg rfl
set_option maxRecDepth 100000 in
theorem e214_16 {L : Lo} {h : Hp} {x : Int32} : Run 214 16 L [.int x] h = some (.inl (some (.int x)), h) := Rd (if_pos (c := narrow .int (.int x) = .int x) rfl)
set_option maxRecDepth 100000 in
theorem e214_19 {L : Lo} {S : List Value} {h : Hp} : Run 214 19 L S h = Run 214 20 L (.int 2 :: S) h := Rg rfl
set_option maxRecDepth 100000 in
theorem e214_20 {L : Lo} {h : Hp} {x : Int32} : Run 214 20 L [.int x] h = some (.inl (some (.int x)), h) := Rd (if_pos (c := narrow .int (.int x) = .int x) rfl)
set_option maxRecDepth 100000 in
theorem e214_21 {L : Lo} {S : List Value} {h : Hp} : Run 214 21 L S h = Run 214 22 L (.int 0 :: S) h := Rg rfl
set_option maxRecDepth 100000 in
theorem e214_22 {L : Lo} {h : Hp} {x : Int32} : Run 214 22 L [.int x] h = some (.inl (some (.int x)), h) := Rd (if_pos (c := narrow .int (.int x) = .int x) rfl)
set_option maxRecDepth 100000 in
theorem e215_0 {L : Lo} {S : List Value} {h : Hp} {x0 x1 x2 : Option Value} {v : Nat} : Run 215 0 (x0 :: x1 :: x2 :: some (.ref v) :: L) S h = Run 215 1 (x0 :: x1 :: x2 :: some (.ref v) :: L) (.ref v :: S) h := Rg rfl
set_option maxRecDepth 100000 in
theorem e215_1 {L : Lo} {S : List Value} {h : Hp} : Run 215 1 L S h = Run 215 2 L (.int 0 :: S) h := Rg rfl
set_option maxRecDepth 100000 in
theorem e215_2 {L : Lo} {S : List Value} {h : Hp} {v : Nat} : Run 215 2 (some (.ref v) :: L) S h = Run 215 3 (some (.ref v) :: L) (.ref v :: S) h := Rg rfl
set_option maxRecDepth 100000 in
theorem e215_3 {L : Lo} {S : List Value} {h : Hp} {x0 : Option Value} {v : Int32} : Run 215 3 (x0 :: some (.int v) :: L) S h = Run 215 4 (x0 :: some (.int v) :: L) (.int v :: S) h := Rg rfl
set_option maxRecDepth 100000 in
theorem e215_4 {L : Lo} {S : List Value} {h : Hp} {x0 x1 : Option Value} {v : Int32} : Run 215 4 (x0 :: x1 :: some (.int v) :: L) S h = Run 215 5 (x0 :: x1 :: some (.int v) :: L) (.int v :: S) h := Rg rfl
set_option maxRecDepth 100000 in
theorem e215_5 {L : Lo} {h : Hp} {a4 : Int32} {a3 : Int32} {a2 : Nat} {a1 : Int32} {a0 : Nat} (hO : isO h a2 8 = true) : Run 215 5 L [.int a4, .int a3, .ref a2, .int a1, .ref a0] h = (Run 85 0 [some (.ref a2), some (.int a3), some (.int a4), none] [] h).bind fun o => aft 215 5 8 L [.int a1, .ref a0] o := Rcv (c := 85) (As := [.int a3, .int a4]) (S' := [.int a1, .ref a0]) (pc' := 8) 8 rfl hO
set_option maxRecDepth 100000 in
theorem e215_8 {L : Lo} {S : List Value} {h : Hp} {x : Int32} : Run 215 8 L (.int x :: S) h = Run 215 9 L (.long x.toInt64 :: S) h := Rg rfl
set_option maxRecDepth 100000 in
theorem e215_9 {L : Lo} {S : List Value} {h : Hp} {v : Int64} {i : Int32} {b : Nat} : Run 215 9 L (.long v :: .int i :: .ref b :: S) h = (paJ h b i v).bind fun h1 => Run 215 10 L S h1 := Rb rfl fun _ => rfl
set_option maxRecDepth 100000 in
theorem e215_10 {L : Lo} {S : List Value} {h : Hp} : Run 215 10 L S h = Run 215 17 L S h := Rg rfl
set_option maxRecDepth 100000 in
theorem e215_15 {L : Lo} {S : List Value} {h : Hp} : Run 215 15 L S h = Run 215 16 L (.int 1 :: S) h := Rg rfl
set_option maxRecDepth 100000 in
theorem e215_16 {L : Lo} {h : Hp} {x : Int32} : Run 215 16 L [.int x] h = some (.inl (some (.int x)), h) := Rd (if_pos (c := narrow .int (.int x) = .int x) rfl)
set_option maxRecDepth 100000 in
theorem e215_17 {L : Lo} {S : List Value} {h : Hp} : Run 215 17 L S h = Run 215 18 L (.int 0 :: S) h := Rg rfl
set_option maxRecDepth 100000 in
theorem e215_18 {L : Lo} {h : Hp} {x : Int32} : Run 215 18 L [.int x] h = some (.inl (some (.int x)), h) := Rd (if_pos (c := narrow .int (.int x) = .int x) rfl)
set_option maxRecDepth 100000 in
theorem e216_0 {L : Lo} {S : List Value} {h : Hp} {x0 x1 x2 x3 x4 x5 x6 : Option Value} {v : Nat} : Run 216 0 (x0 :: x1 :: x2 :: x3 :: x4 :: x5 :: x6 :: some (.ref v) :: L) S h = Run 216 2 (x0 :: x1 :: x2 :: x3 :: x4 :: x5 :: x6 :: some (.ref v) :: L) (.ref v :: S) h := Rg rfl
set_option maxRecDepth 100000 in
theorem e216_2 {L : Lo} {S : List Value} {h : Hp} : Run 216 2 L S h = Run 216 3 L (.int 0 :: S) h := Rg rfl
set_option maxRecDepth 100000 in
theorem e216_3 {L : Lo} {S : List Value} {h : Hp} {v : Nat} : Run 216 3 (some (.ref v) :: L) S h = Run 216 4 (some (.ref v) :: L) (.ref v :: S) h := Rg rfl
set_option maxRecDepth 100000 in
theorem e216_4 {L : Lo} {S : List Value} {h : Hp} {x0 : Option Value} {v : Int32} : Run 216 4 (x0 :: some (.int v) :: L) S h = Run 216 5 (x0 :: some (.int v) :: L) (.int v :: S) h := Rg rfl
set_option maxRecDepth 100000 in
theorem e216_5 {L : Lo} {S : List Value} {h : Hp} {x0 x1 : Option Value} {v : Int32} : Run 216 5 (x0 :: x1 :: some (.int v) :: L) S h = Run 216 6 (x0 :: x1 :: some (.int v) :: L) (.int v :: S) h := Rg rfl
set_option maxRecDepth 100000 in
theorem e216_6 {L : Lo} {S : List Value} {h : Hp} {x0 x1 x2 : Option Value} {v : Int32} : Run 216 6 (x0 :: x1 :: x2 :: some (.int v) :: L) S h = Run 216 7 (x0 :: x1 :: x2 :: some (.int v) :: L) (.int v :: S) h := Rg rfl
set_option maxRecDepth 100000 in
theorem e216_7 {L : Lo} {S : List Value} {h : Hp} {x0 x1 x2 x3 : Option Value} {v : Int32} : Run 216 7 (x0 :: x1 :: x2 :: x3 :: some (.int v) :: L) S h = Run 216 9 (x0 :: x1 :: x2 :: x3 :: some (.int v) :: L) (.int v :: S) h := Rg rfl
set_option maxRecDepth 100000 in
theorem e216_9 {L : Lo} {S : List Value} {h : Hp} {x0 x1 x2 x3 x4 : Option Value} {v : Int32} : Run 216 9 (x0 :: x1 :: x2 :: x3 :: x4 :: some (.int v) :: L) S h = Run 216 11 (x0 :: x1 :: x2 :: x3 :: x4 :: some (.int v) :: L) (.int v :: S) h := Rg rfl
set_option maxRecDepth 100000 in
theorem e216_11 {L : Lo} {S : List Value} {h : Hp} {x0 x1 x2 x3 x4 x5 : Option Value} {v : Int32} : Run 216 11 (x0 :: x1 :: x2 :: x3 :: x4 :: x5 :: some (.int v) :: L) S h = Run 216 13 (x0 :: x1 :: x2 :: x3 :: x4 :: x5 :: some (.int v) :: L) (.int v :: S) h := Rg rfl
set_option maxRecDepth 100000 in
theorem e216_13 {L : Lo} {h : Hp} {a8 : Int32} {a7 : Int32} {a6 : Int32} {a5 : Int32} {a4 : Int32} {a3 : Int32} {a2 : Nat} {a1 : Int32} {a0 : Nat} (hO : isO h a2 8 = true) : Run 216 13 L [.int a8, .int a7, .int a6, .int a5, .int a4, .int a3, .ref a2, .int a1, .ref a0] h = (Run 86 0 [some (.ref a2), some (.int a3), some (.int a4), some (.int a5), some (.int a6), some (.int a7), some (.int a8), none, none] [] h).bind fun o => aft 216 13 16 L [.int a1, .ref a0] o := Rcv (c := 86) (As := [.int a3, .int a4, .int a5, .int a6, .int a7, .int a8]) (S' := [.int a1, .ref a0]) (pc' := 16) 8 rfl hO
set_option maxRecDepth 100000 in
theorem e216_16 {L : Lo} {S : List Value} {h : Hp} {x : Int32} : Run 216 16 L (.int x :: S) h = Run 216 17 L (.long x.toInt64 :: S) h := Rg rfl
set_option maxRecDepth 100000 in
theorem e216_17 {L : Lo} {S : List Value} {h : Hp} {v : Int64} {i : Int32} {b : Nat} : Run 216 17 L (.long v :: .int i :: .ref b :: S) h = (paJ h b i v).bind fun h1 => Run 216 18 L S h1 := Rb rfl fun _ => rfl
set_option maxRecDepth 100000 in
theorem e216_18 {L : Lo} {S : List Value} {h : Hp} : Run 216 18 L S h = Run 216 33 L S h := Rg rfl
set_option maxRecDepth 100000 in
theorem e216_23 {L : Lo} {S : List Value} {h : Hp} : Run 216 23 L S h = Run 216 24 L (.int 1 :: S) h := Rg rfl
set_option maxRecDepth 100000 in
theorem e216_24 {L : Lo} {h : Hp} {x : Int32} : Run 216 24 L [.int x] h = some (.inl (some (.int x)), h) := Rd (if_pos (c := narrow .int (.int x) = .int x) rfl)
set_option maxRecDepth 100000 in
theorem e216_27 {L : Lo} {S : List Value} {h : Hp} : Run 216 27 L S h = Run 216 28 L (.int 2 :: S) h := Rg rfl
set_option maxRecDepth 100000 in
theorem e216_28 {L : Lo} {h : Hp} {x : Int32} : Run 216 28 L [.int x] h = some (.inl (some (.int x)), h) := Rd (if_pos (c := narrow .int (.int x) = .int x) rfl)
set_option maxRecDepth 100000 in
theorem e216_31 {L : Lo} {S : List Value} {h : Hp} : Run 216 31 L S h = Run 216 32 L (.int 3 :: S) h := Rg rfl
set_option maxRecDepth 100000 in
theorem e216_32 {L : Lo} {h : Hp} {x : Int32} : Run 216 32 L [.int x] h = some (.inl (some (.int x)), h) := Rd (if_pos (c := narrow .int (.int x) = .int x) rfl)
set_option maxRecDepth 100000 in
theorem e216_33 {L : Lo} {S : List Value} {h : Hp} : Run 216 33 L S h = Run 216 34 L (.int 0 :: S) h := Rg rfl
set_option maxRecDepth 100000 in
theorem e216_34 {L : Lo} {h : Hp} {x : Int32} : Run 216 34 L [.int x] h = some (.inl (some (.int x)), h) := Rd (if_pos (c := narrow .int (.int x) = .int x) rfl)
set_option maxRecDepth 100000 in
theorem e217_0 {L : Lo} {S : List Value} {h : Hp} {x0 x1 : Option Value} {v : Nat} : Run 217 0 (x0 :: x1 :: some (.ref v) :: L) S h = Run 217 1 (x0 :: x1 :: some (.ref v) :: L) (.ref v :: S) h := Rg rfl
set_option maxRecDepth 100000 in
theorem e217_1 {L : Lo} {S : List Value} {h : Hp} : Run 217 1 L S h = Run 217 2 L (.int 0 :: S) h := Rg rfl
set_option maxRecDepth 100000 in
theorem e217_2 {L : Lo} {S : List Value} {h : Hp} {v : Nat} : Run 217 2 (some (.ref v) :: L) S h = Run 217 3 (some (.ref v) :: L) (.ref v :: S) h := Rg rfl
set_option maxRecDepth 100000 in
theorem e217_3 {L : Lo} {S : List Value} {h : Hp} {x0 : Option Value} {v : Int32} : Run 217 3 (x0 :: some (.int v) :: L) S h = Run 217 4 (x0 :: some (.int v) :: L) (.int v :: S) h := Rg rfl
set_option maxRecDepth 100000 in
theorem e217_4 {L : Lo} {h : Hp} {a3 : Int32} {a2 : Nat} {a1 : Int32} {a0 : Nat} (hO : isO h a2 8 = true) : Run 217 4 L [.int a3, .ref a2, .int a1, .ref a0] h = (Run 87 0 [some (.ref a2), some (.int a3)] [] h).bind fun o => aft 217 4 7 L [.int a1, .ref a0] o := Rcv (c := 87) (As := [.int a3]) (S' := [.int a1, .ref a0]) (pc' := 7) 8 rfl hO
set_option maxRecDepth 100000 in
theorem e217_7 {L : Lo} {S : List Value} {h : Hp} {x : Int32} : Run 217 7 L (.int x :: S) h = Run 217 8 L (.long x.toInt64 :: S) h := Rg rfl
set_option maxRecDepth 100000 in
theorem e217_8 {L : Lo} {S : List Value} {h : Hp} {v : Int64} {i : Int32} {b : Nat} : Run 217 8 L (.long v :: .int i :: .ref b :: S) h = (paJ h b i v).bind fun h1 => Run 217 9 L S h1 := Rb rfl fun _ => rfl
set_option maxRecDepth 100000 in
theorem e217_9 {L : Lo} {S : List Value} {h : Hp} : Run 217 9 L S h = Run 217 15 L S h := Rg rfl
set_option maxRecDepth 100000 in
theorem e217_13 {L : Lo} {S : List Value} {h : Hp} : Run 217 13 L S h = Run 217 14 L (.int 1 :: S) h := Rg rfl
set_option maxRecDepth 100000 in
theorem e217_14 {L : Lo} {h : Hp} {x : Int32} : Run 217 14 L [.int x] h = some (.inl (some (.int x)), h) := Rd (if_pos (c := narrow .int (.int x) = .int x) rfl)
set_option maxRecDepth 100000 in
theorem e217_15 {L : Lo} {S : List Value} {h : Hp} : Run 217 15 L S h = Run 217 16 L (.int 0 :: S) h := Rg rfl
set_option maxRecDepth 100000 in
theorem e217_16 {L : Lo} {h : Hp} {x : Int32} : Run 217 16 L [.int x] h = some (.inl (some (.int x)), h) := Rd (if_pos (c := narrow .int (.int x) = .int x) rfl)
set_option maxRecDepth 100000 in
theorem e218_0 {L : Lo} {S : List Value} {h : Hp} {x0 x1 x2 : Option Value} {v : Nat} : Run 218 0 (x0 :: x1 :: x2 :: some (.ref v) :: L) S h = Run 218 1 (x0 :: x1 :: x2 :: some (.ref v) :: L) (.ref v :: S) h := Rg rfl
set_option maxRecDepth 100000 in
theorem e218_1 {L : Lo} {S : List Value} {h : Hp} : Run 218 1 L S h = Run 218 2 L (.int 0 :: S) h := Rg rfl
set_option maxRecDepth 100000 in
theorem e218_2 {L : Lo} {S : List Value} {h : Hp} {v : Nat} : Run 218 2 (some (.ref v) :: L) S h = Run 218 3 (some (.ref v) :: L) (.ref v :: S) h := Rg rfl
set_option maxRecDepth 100000 in
theorem e218_3 {L : Lo} {S : List Value} {h : Hp} {x0 : Option Value} {v : Int32} : Run 218 3 (x0 :: some (.int v) :: L) S h = Run 218 4 (x0 :: some (.int v) :: L) (.int v :: S) h := Rg rfl
set_option maxRecDepth 100000 in
theorem e218_4 {L : Lo} {S : List Value} {h : Hp} {x0 x1 : Option Value} {v : Int32} : Run 218 4 (x0 :: x1 :: some (.int v) :: L) S h = Run 218 5 (x0 :: x1 :: some (.int v) :: L) (.int v :: S) h := Rg rfl
set_option maxRecDepth 100000 in
theorem e218_5 {L : Lo} {h : Hp} {a4 : Int32} {a3 : Int32} {a2 : Nat} {a1 : Int32} {a0 : Nat} (hO : isO h a2 8 = true) : Run 218 5 L [.int a4, .int a3, .ref a2, .int a1, .ref a0] h = (Run 88 0 [some (.ref a2), some (.int a3), some (.int a4)] [] h).bind fun o => aft 218 5 8 L [.int a1, .ref a0] o := Rcv (c := 88) (As := [.int a3, .int a4]) (S' := [.int a1, .ref a0]) (pc' := 8) 8 rfl hO
set_option maxRecDepth 100000 in
theorem e218_8 {L : Lo} {S : List Value} {h : Hp} {x : Int32} : Run 218 8 L (.int x :: S) h = Run 218 9 L (.long x.toInt64 :: S) h := Rg rfl
set_option maxRecDepth 100000 in
theorem e218_9 {L : Lo} {S : List Value} {h : Hp} {v : Int64} {i : Int32} {b : Nat} : Run 218 9 L (.long v :: .int i :: .ref b :: S) h = (paJ h b i v).bind fun h1 => Run 218 10 L S h1 := Rb rfl fun _ => rfl
set_option maxRecDepth 100000 in
theorem e218_10 {L : Lo} {S : List Value} {h : Hp} : Run 218 10 L S h = Run 218 21 L S h := Rg rfl
set_option maxRecDepth 100000 in
theorem e218_15 {L : Lo} {S : List Value} {h : Hp} : Run 218 15 L S h = Run 218 16 L (.int 1 :: S) h := Rg rfl
set_option maxRecDepth 100000 in
theorem e218_16 {L : Lo} {h : Hp} {x : Int32} : Run 218 16 L [.int x] h = some (.inl (some (.int x)), h) := Rd (if_pos (c := narrow .int (.int x) = .int x) rfl)
set_option maxRecDepth 100000 in
theorem e218_19 {L : Lo} {S : List Value} {h : Hp} : Run 218 19 L S h = Run 218 20 L (.int 2 :: S) h := Rg rfl
set_option maxRecDepth 100000 in
theorem e218_20 {L : Lo} {h : Hp} {x : Int32} : Run 218 20 L [.int x] h = some (.inl (some (.int x)), h) := Rd (if_pos (c := narrow .int (.int x) = .int x) rfl)
set_option maxRecDepth 100000 in
theorem e218_21 {L : Lo} {S : List Value} {h : Hp} : Run 218 21 L S h = Run 218 22 L (.int 0 :: S) h := Rg rfl
set_option maxRecDepth 100000 in
theorem e218_22 {L : Lo} {h : Hp} {x : Int32} : Run 218 22 L [.int x] h = some (.inl (some (.int x)), h) := Rd (if_pos (c := narrow .int (.int x) = .int x) rfl)
set_option maxRecDepth 100000 in
theorem e219_0 {L : Lo} {S : List Value} {h : Hp} {x0 x1 : Option Value} {v : Nat} : Run 219 0 (x0 :: x1 :: some (.ref v) :: L) S h = Run 219 1 (x0 :: x1 :: some (.ref v) :: L) (.ref v :: S) h := Rg rfl
set_option maxRecDepth 100000 in
theorem e219_1 {L : Lo} {S : List Value} {h : Hp} : Run 219 1 L S h = Run 219 2 L (.int 0 :: S) h := Rg rfl
set_option maxRecDepth 100000 in
theorem e219_2 {L : Lo} {S : List Value} {h : Hp} {v : Nat} : Run 219 2 (some (.ref v) :: L) S h = Run 219 3 (some (.ref v) :: L) (.ref v :: S) h := Rg rfl
set_option maxRecDepth 100000 in
theorem e219_3 {L : Lo} {S : List Value} {h : Hp} {x0 : Option Value} {v : Int32} : Run 219 3 (x0 :: some (.int v) :: L) S h = Run 219 4 (x0 :: some (.int v) :: L) (.int v :: S) h := Rg rfl
set_option maxRecDepth 100000 in
theorem e219_4 {L : Lo} {h : Hp} {a3 : Int32} {a2 : Nat} {a1 : Int32} {a0 : Nat} (hO : isO h a2 8 = true) : Run 219 4 L [.int a3, .ref a2, .int a1, .ref a0] h = (Run 89 0 [some (.ref a2), some (.int a3)] [] h).bind fun o => aft 219 4 7 L [.int a1, .ref a0] o := Rcv (c := 89) (As := [.int a3]) (S' := [.int a1, .ref a0]) (pc' := 7) 8 rfl hO
set_option maxRecDepth 100000 in
theorem e219_7 {L : Lo} {S : List Value} {h : Hp} {x : Int32} : Run 219 7 L (.int x :: S) h = Run 219 8 L (.long x.toInt64 :: S) h := Rg rfl
set_option maxRecDepth 100000 in
theorem e219_8 {L : Lo} {S : List Value} {h : Hp} {v : Int64} {i : Int32} {b : Nat} : Run 219 8 L (.long v :: .int i :: .ref b :: S) h = (paJ h b i v).bind fun h1 => Run 219 9 L S h1 := Rb rfl fun _ => rfl
set_option maxRecDepth 100000 in
theorem e219_9 {L : Lo} {S : List Value} {h : Hp} : Run 219 9 L S h = Run 219 15 L S h := Rg rfl
set_option maxRecDepth 100000 in
theorem e219_13 {L : Lo} {S : List Value} {h : Hp} : Run 219 13 L S h = Run 219 14 L (.int 1 :: S) h := Rg rfl
set_option maxRecDepth 100000 in
theorem e219_14 {L : Lo} {h : Hp} {x : Int32} : Run 219 14 L [.int x] h = some (.inl (some (.int x)), h) := Rd (if_pos (c := narrow .int (.int x) = .int x) rfl)
set_option maxRecDepth 100000 in
theorem e219_15 {L : Lo} {S : List Value} {h : Hp} : Run 219 15 L S h = Run 219 16 L (.int 0 :: S) h := Rg rfl
set_option maxRecDepth 100000 in
theorem e219_16 {L : Lo} {h : Hp} {x : Int32} : Run 219 16 L [.int x] h = some (.inl (some (.int x)), h) := Rd (if_pos (c := narrow .int (.int x) = .int x) rfl)
set_option maxRecDepth 100000 in
theorem e220_0 {L : Lo} {S : List Value} {h : Hp} {x0 x1 x2 : Option Value} {v : Nat} : Run 220 0 (x0 :: x1 :: x2 :: some (.ref v) :: L) S h = Run 220 1 (x0 :: x1 :: x2 :: some (.ref v) :: L) (.ref v :: S) h := Rg rfl
set_option maxRecDepth 100000 in
theorem e220_1 {L : Lo} {S : List Value} {h : Hp} : Run 220 1 L S h = Run 220 2 L (.int 0 :: S) h := Rg rfl
set_option maxRecDepth 100000 in
theorem e220_2 {L : Lo} {S : List Value} {h : Hp} {v : Nat} : Run 220 2 (some (.ref v) :: L) S h = Run 220 3 (some (.ref v) :: L) (.ref v :: S) h := Rg rfl
set_option maxRecDepth 100000 in
theorem e220_3 {L : Lo} {S : List Value} {h : Hp} {x0 : Option Value} {v : Int32} : Run 220 3 (x0 :: some (.int v) :: L) S h = Run 220 4 (x0 :: some (.int v) :: L) (.int v :: S) h := Rg rfl
set_option maxRecDepth 100000 in
theorem e220_4 {L : Lo} {S : List Value} {h : Hp} {x0 x1 : Option Value} {v : Int32} : Run 220 4 (x0 :: x1 :: some (.int v) :: L) S h = Run 220 5 (x0 :: x1 :: some (.int v) :: L) (.int v :: S) h := Rg rfl
set_option maxRecDepth 100000 in
theorem e220_5 {L : Lo} {h : Hp} {a4 : Int32} {a3 : Int32} {a2 : Nat} {a1 : Int32} {a0 : Nat} (hO : isO h a2 8 = true) : Run 220 5 L [.int a4, .int a3, .ref a2, .int a1, .ref a0] h = (Run 90 0 [some (.ref a2), some (.int a3), some (.int a4)] [] h).bind fun o => aft 220 5 8 L [.int a1, .ref a0] o := Rcv (c := 90) (As := [.int a3, .int a4]) (S' := [.int a1, .ref a0]) (pc' := 8) 8 rfl hO
set_option maxRecDepth 100000 in
theorem e220_8 {L : Lo} {S : List Value} {h : Hp} {x : Int32} : Run 220 8 L (.int x :: S) h = Run 220 9 L (.long x.toInt64 :: S) h := Rg rfl
set_option maxRecDepth 100000 in
theorem e220_9 {L : Lo} {S : List Value} {h : Hp} {v : Int64} {i : Int32} {b : Nat} : Run 220 9 L (.long v :: .int i :: .ref b :: S) h = (paJ h b i v).bind fun h1 => Run 220 10 L S h1 := Rb rfl fun _ => rfl
set_option maxRecDepth 100000 in
theorem e220_10 {L : Lo} {S : List Value} {h : Hp} : Run 220 10 L S h = Run 220 17 L S h := Rg rfl
set_option maxRecDepth 100000 in
theorem e220_15 {L : Lo} {S : List Value} {h : Hp} : Run 220 15 L S h = Run 220 16 L (.int 1 :: S) h := Rg rfl
set_option maxRecDepth 100000 in
theorem e220_16 {L : Lo} {h : Hp} {x : Int32} : Run 220 16 L [.int x] h = some (.inl (some (.int x)), h) := Rd (if_pos (c := narrow .int (.int x) = .int x) rfl)
set_option maxRecDepth 100000 in
theorem e220_17 {L : Lo} {S : List Value} {h : Hp} : Run 220 17 L S h = Run 220 18 L (.int 0 :: S) h := Rg rfl
set_option maxRecDepth 100000 in
theorem e220_18 {L : Lo} {h : Hp} {x : Int32} : Run 220 18 L [.int x] h = some (.inl (some (.int x)), h) := Rd (if_pos (c := narrow .int (.int x) = .int x) rfl)
set_option maxRecDepth 100000 in
theorem e221_0 {L : Lo} {S : List Value} {h : Hp} {x0 x1 x2 : Option Value} {v : Nat} : Run 221 0 (x0 :: x1 :: x2 :: some (.ref v) :: L) S h = Run 221 1 (x0 :: x1 :: x2 :: some (.ref v) :: L) (.ref v :: S) h := Rg rfl
set_option maxRecDepth 100000 in
theorem e221_1 {L : Lo} {S : List Value} {h : Hp} : Run 221 1 L S h = Run 221 2 L (.int 0 :: S) h := Rg rfl
set_option maxRecDepth 100000 in
theorem e221_2 {L : Lo} {S : List Value} {h : Hp} {v : Nat} : Run 221 2 (some (.ref v) :: L) S h = Run 221 3 (some (.ref v) :: L) (.ref v :: S) h := Rg rfl
set_option maxRecDepth 100000 in
theorem e221_3 {L : Lo} {S : List Value} {h : Hp} {x0 : Option Value} {v : Int32} : Run 221 3 (x0 :: some (.int v) :: L) S h = Run 221 4 (x0 :: some (.int v) :: L) (.int v :: S) h := Rg rfl
set_option maxRecDepth 100000 in
theorem e221_4 {L : Lo} {S : List Value} {h : Hp} {x0 x1 : Option Value} {v : Int32} : Run 221 4 (x0 :: x1 :: some (.int v) :: L) S h = Run 221 5 (x0 :: x1 :: some (.int v) :: L) (.int v :: S) h := Rg rfl
set_option maxRecDepth 100000 in
theorem e221_5 {L : Lo} {h : Hp} {a4 : Int32} {a3 : Int32} {a2 : Nat} {a1 : Int32} {a0 : Nat} (hO : isO h a2 8 = true) : Run 221 5 L [.int a4, .int a3, .ref a2, .int a1, .ref a0] h = (Run 91 0 [some (.ref a2), some (.int a3), some (.int a4)] [] h).bind fun o => aft 221 5 8 L [.int a1, .ref a0] o := Rcv (c := 91) (As := [.int a3, .int a4]) (S' := [.int a1, .ref a0]) (pc' := 8) 8 rfl hO
set_option maxRecDepth 100000 in
theorem e221_8 {L : Lo} {S : List Value} {h : Hp} {x : Int32} : Run 221 8 L (.int x :: S) h = Run 221 9 L (.long x.toInt64 :: S) h := Rg rfl
set_option maxRecDepth 100000 in
theorem e221_9 {L : Lo} {S : List Value} {h : Hp} {v : Int64} {i : Int32} {b : Nat} : Run 221 9 L (.long v :: .int i :: .ref b :: S) h = (paJ h b i v).bind fun h1 => Run 221 10 L S h1 := Rb rfl fun _ => rfl
set_option maxRecDepth 100000 in
theorem e221_10 {L : Lo} {S : List Value} {h : Hp} : Run 221 10 L S h = Run 221 17 L S h := Rg rfl
set_option maxRecDepth 100000 in
theorem e221_15 {L : Lo} {S : List Value} {h : Hp} : Run 221 15 L S h = Run 221 16 L (.int 1 :: S) h := Rg rfl
set_option maxRecDepth 100000 in
theorem e221_16 {L : Lo} {h : Hp} {x : Int32} : Run 221 16 L [.int x] h = some (.inl (some (.int x)), h) := Rd (if_pos (c := narrow .int (.int x) = .int x) rfl)
set_option maxRecDepth 100000 in
theorem e221_17 {L : Lo} {S : List Value} {h : Hp} : Run 221 17 L S h = Run 221 18 L (.int 0 :: S) h := Rg rfl
set_option maxRecDepth 100000 in
theorem e221_18 {L : Lo} {h : Hp} {x : Int32} : Run 221 18 L [.int x] h = some (.inl (some (.int x)), h) := Rd (if_pos (c := narrow .int (.int x) = .int x) rfl)
set_option maxRecDepth 100000 in
theorem e222_0 {L : Lo} {S : List Value} {h : Hp} {x0 x1 : Option Value} {v : Nat} : Run 222 0 (x0 :: x1 :: some (.ref v) :: L) S h = Run 222 1 (x0 :: x1 :: some (.ref v) :: L) (.ref v :: S) h := Rg rfl
set_option maxRecDepth 100000 in
theorem e222_1 {L : Lo} {S : List Value} {h : Hp} : Run 222 1 L S h = Run 222 2 L (.int 0 :: S) h := Rg rfl
set_option maxRecDepth 100000 in
theorem e222_2 {L : Lo} {S : List Value} {h : Hp} {v : Nat} : Run 222 2 (some (.ref v) :: L) S h = Run 222 3 (some (.ref v) :: L) (.ref v :: S) h := Rg rfl
set_option maxRecDepth 100000 in
theorem e222_3 {L : Lo} {S : List Value} {h : Hp} {x0 : Option Value} {v : Int32} : Run 222 3 (x0 :: some (.int v) :: L) S h = Run 222 4 (x0 :: some (.int v) :: L) (.int v :: S) h := Rg rfl
set_option maxRecDepth 100000 in
theorem e222_4 {L : Lo} {h : Hp} {a3 : Int32} {a2 : Nat} {a1 : Int32} {a0 : Nat} (hO : isO h a2 8 = true) : Run 222 4 L [.int a3, .ref a2, .int a1, .ref a0] h = (Run 92 0 [some (.ref a2), some (.int a3), none] [] h).bind fun o => aft 222 4 7 L [.int a1, .ref a0] o := Rcv (c := 92) (As := [.int a3]) (S' := [.int a1, .ref a0]) (pc' := 7) 8 rfl hO
set_option maxRecDepth 100000 in
theorem e222_7 {L : Lo} {S : List Value} {h : Hp} {x : Int32} : Run 222 7 L (.int x :: S) h = Run 222 8 L (.long x.toInt64 :: S) h := Rg rfl
set_option maxRecDepth 100000 in
theorem e222_8 {L : Lo} {S : List Value} {h : Hp} {v : Int64} {i : Int32} {b : Nat} : Run 222 8 L (.long v :: .int i :: .ref b :: S) h = (paJ h b i v).bind fun h1 => Run 222 9 L S h1 := Rb rfl fun _ => rfl
set_option maxRecDepth 100000 in
theorem e222_9 {L : Lo} {S : List Value} {h : Hp} : Run 222 9 L S h = Run 222 18 L S h := Rg rfl
set_option maxRecDepth 100000 in
theorem e222_13 {L : Lo} {S : List Value} {h : Hp} : Run 222 13 L S h = Run 222 14 L (.int 1 :: S) h := Rg rfl
set_option maxRecDepth 100000 in
theorem e222_14 {L : Lo} {h : Hp} {x : Int32} : Run 222 14 L [.int x] h = some (.inl (some (.int x)), h) := Rd (if_pos (c := narrow .int (.int x) = .int x) rfl)
set_option maxRecDepth 100000 in
theorem e222_16 {L : Lo} {S : List Value} {h : Hp} : Run 222 16 L S h = Run 222 17 L (.int 2 :: S) h := Rg rfl
set_option maxRecDepth 100000 in
theorem e222_17 {L : Lo} {h : Hp} {x : Int32} : Run 222 17 L [.int x] h = some (.inl (some (.int x)), h) := Rd (if_pos (c := narrow .int (.int x) = .int x) rfl)
set_option maxRecDepth 100000 in
theorem e222_18 {L : Lo} {S : List Value} {h : Hp} : Run 222 18 L S h = Run 222 19 L (.int 0 :: S) h := Rg rfl
set_option maxRecDepth 100000 in
theorem e222_19 {L : Lo} {h : Hp} {x : Int32} : Run 222 19 L [.int x] h = some (.inl (some (.int x)), h) := Rd (if_pos (c := narrow .int (.int x) = .int x) rfl)
set_option maxRecDepth 100000 in
theorem e223_0 {L : Lo} {S : List Value} {h : Hp} {x0 x1 x2 : Option Value} {v : Nat} : Run 223 0 (x0 :: x1 :: x2 :: some (.ref v) :: L) S h = Run 223 1 (x0 :: x1 :: x2 :: some (.ref v) :: L) (.ref v :: S) h := Rg rfl
set_option maxRecDepth 100000 in
theorem e223_1 {L : Lo} {S : List Value} {h : Hp} : Run 223 1 L S h = Run 223 2 L (.int 0 :: S) h := Rg rfl
set_option maxRecDepth 100000 in
theorem e223_2 {L : Lo} {S : List Value} {h : Hp} {v : Nat} : Run 223 2 (some (.ref v) :: L) S h = Run 223 3 (some (.ref v) :: L) (.ref v :: S) h := Rg rfl
set_option maxRecDepth 100000 in
theorem e223_3 {L : Lo} {S : List Value} {h : Hp} {x0 : Option Value} {v : Int32} : Run 223 3 (x0 :: some (.int v) :: L) S h = Run 223 4 (x0 :: some (.int v) :: L) (.int v :: S) h := Rg rfl
set_option maxRecDepth 100000 in
theorem e223_4 {L : Lo} {S : List Value} {h : Hp} {x0 x1 : Option Value} {v : Int32} : Run 223 4 (x0 :: x1 :: some (.int v) :: L) S h = Run 223 5 (x0 :: x1 :: some (.int v) :: L) (.int v :: S) h := Rg rfl
set_option maxRecDepth 100000 in
theorem e223_5 {L : Lo} {h : Hp} {a4 : Int32} {a3 : Int32} {a2 : Nat} {a1 : Int32} {a0 : Nat} (hO : isO h a2 8 = true) : Run 223 5 L [.int a4, .int a3, .ref a2, .int a1, .ref a0] h = (Run 93 0 [some (.ref a2), some (.int a3), some (.int a4), none] [] h).bind fun o => aft 223 5 8 L [.int a1, .ref a0] o := Rcv (c := 93) (As := [.int a3, .int a4]) (S' := [.int a1, .ref a0]) (pc' := 8) 8 rfl hO
set_option maxRecDepth 100000 in
theorem e223_8 {L : Lo} {S : List Value} {h : Hp} {x : Int32} : Run 223 8 L (.int x :: S) h = Run 223 9 L (.long x.toInt64 :: S) h := Rg rfl
set_option maxRecDepth 100000 in
theorem e223_9 {L : Lo} {S : List Value} {h : Hp} {v : Int64} {i : Int32} {b : Nat} : Run 223 9 L (.long v :: .int i :: .ref b :: S) h = (paJ h b i v).bind fun h1 => Run 223 10 L S h1 := Rb rfl fun _ => rfl
set_option maxRecDepth 100000 in
theorem e223_10 {L : Lo} {S : List Value} {h : Hp} : Run 223 10 L S h = Run 223 21 L S h := Rg rfl
set_option maxRecDepth 100000 in
theorem e223_15 {L : Lo} {S : List Value} {h : Hp} : Run 223 15 L S h = Run 223 16 L (.int 1 :: S) h := Rg rfl
set_option maxRecDepth 100000 in
theorem e223_16 {L : Lo} {h : Hp} {x : Int32} : Run 223 16 L [.int x] h = some (.inl (some (.int x)), h) := Rd (if_pos (c := narrow .int (.int x) = .int x) rfl)
set_option maxRecDepth 100000 in
theorem e223_19 {L : Lo} {S : List Value} {h : Hp} : Run 223 19 L S h = Run 223 20 L (.int 2 :: S) h := Rg rfl
set_option maxRecDepth 100000 in
theorem e223_20 {L : Lo} {h : Hp} {x : Int32} : Run 223 20 L [.int x] h = some (.inl (some (.int x)), h) := Rd (if_pos (c := narrow .int (.int x) = .int x) rfl)
set_option maxRecDepth 100000 in
theorem e223_21 {L : Lo} {S : List Value} {h : Hp} : Run 223 21 L S h = Run 223 22 L (.int 0 :: S) h := Rg rfl
set_option maxRecDepth 100000 in
theorem e223_22 {L : Lo} {h : Hp} {x : Int32} : Run 223 22 L [.int x] h = some (.inl (some (.int x)), h) := Rd (if_pos (c := narrow .int (.int x) = .int x) rfl)
set_option maxRecDepth 100000 in
theorem e224_0 {L : Lo} {S : List Value} {h : Hp} {x0 x1 x2 x3 : Option Value} {v : Nat} : Run 224 0 (x0 :: x1 :: x2 :: x3 :: some (.ref v) :: L) S h = Run 224 2 (x0 :: x1 :: x2 :: x3 :: some (.ref v) :: L) (.ref v :: S) h := Rg rfl
set_option maxRecDepth 100000 in
theorem e224_2 {L : Lo} {S : List Value} {h : Hp} : Run 224 2 L S h = Run 224 3 L (.int 0 :: S) h := Rg rfl
set_option maxRecDepth 100000 in
theorem e224_3 {L : Lo} {S : List Value} {h : Hp} {v : Nat} : Run 224 3 (some (.ref v) :: L) S h = Run 224 4 (some (.ref v) :: L) (.ref v :: S) h := Rg rfl
set_option maxRecDepth 100000 in
theorem e224_4 {L : Lo} {S : List Value} {h : Hp} {x0 : Option Value} {v : Int32} : Run 224 4 (x0 :: some (.int v) :: L) S h = Run 224 5 (x0 :: some (.int v) :: L) (.int v :: S) h := Rg rfl
set_option maxRecDepth 100000 in
theorem e224_5 {L : Lo} {S : List Value} {h : Hp} {x0 x1 : Option Value} {v : Int32} : Run 224 5 (x0 :: x1 :: some (.int v) :: L) S h = Run 224 6 (x0 :: x1 :: some (.int v) :: L) (.int v :: S) h := Rg rfl
set_option maxRecDepth 100000 in
theorem e224_6 {L : Lo} {S : List Value} {h : Hp} {x0 x1 x2 : Option Value} {v : Int32} : Run 224 6 (x0 :: x1 :: x2 :: some (.int v) :: L) S h = Run 224 7 (x0 :: x1 :: x2 :: some (.int v) :: L) (.int v :: S) h := Rg rfl
set_option maxRecDepth 100000 in
theorem e224_7 {L : Lo} {h : Hp} {a5 : Int32} {a4 : Int32} {a3 : Int32} {a2 : Nat} {a1 : Int32} {a0 : Nat} (hO : isO h a2 8 = true) : Run 224 7 L [.int a5, .int a4, .int a3, .ref a2, .int a1, .ref a0] h = (Run 95 0 [some (.ref a2), some (.int a3), some (.int a4), some (.int a5)] [] h).bind fun o => aft 224 7 10 L [.int a1, .ref a0] o := Rcv (c := 95) (As := [.int a3, .int a4, .int a5]) (S' := [.int a1, .ref a0]) (pc' := 10) 8 rfl hO
set_option maxRecDepth 100000 in
theorem e224_10 {L : Lo} {S : List Value} {h : Hp} {x : Int32} : Run 224 10 L (.int x :: S) h = Run 224 11 L (.long x.toInt64 :: S) h := Rg rfl
set_option maxRecDepth 100000 in
theorem e224_11 {L : Lo} {S : List Value} {h : Hp} {v : Int64} {i : Int32} {b : Nat} : Run 224 11 L (.long v :: .int i :: .ref b :: S) h = (paJ h b i v).bind fun h1 => Run 224 12 L S h1 := Rb rfl fun _ => rfl
set_option maxRecDepth 100000 in
theorem e224_12 {L : Lo} {S : List Value} {h : Hp} : Run 224 12 L S h = Run 224 23 L S h := Rg rfl
set_option maxRecDepth 100000 in
theorem e224_17 {L : Lo} {S : List Value} {h : Hp} : Run 224 17 L S h = Run 224 18 L (.int 1 :: S) h := Rg rfl
set_option maxRecDepth 100000 in
theorem e224_18 {L : Lo} {h : Hp} {x : Int32} : Run 224 18 L [.int x] h = some (.inl (some (.int x)), h) := Rd (if_pos (c := narrow .int (.int x) = .int x) rfl)
set_option maxRecDepth 100000 in
theorem e224_21 {L : Lo} {S : List Value} {h : Hp} : Run 224 21 L S h = Run 224 22 L (.int 2 :: S) h := Rg rfl
set_option maxRecDepth 100000 in
theorem e224_22 {L : Lo} {h : Hp} {x : Int32} : Run 224 22 L [.int x] h = some (.inl (some (.int x)), h) := Rd (if_pos (c := narrow .int (.int x) = .int x) rfl)
set_option maxRecDepth 100000 in
theorem e224_23 {L : Lo} {S : List Value} {h : Hp} : Run 224 23 L S h = Run 224 24 L (.int 0 :: S) h := Rg rfl
set_option maxRecDepth 100000 in
theorem e224_24 {L : Lo} {h : Hp} {x : Int32} : Run 224 24 L [.int x] h = some (.inl (some (.int x)), h) := Rd (if_pos (c := narrow .int (.int x) = .int x) rfl)
set_option maxRecDepth 100000 in
theorem e225_0 {L : Lo} {S : List Value} {h : Hp} {x0 x1 x2 x3 x4 : Option Value} {v : Nat} : Run 225 0 (x0 :: x1 :: x2 :: x3 :: x4 :: some (.ref v) :: L) S h = Run 225 2 (x0 :: x1 :: x2 :: x3 :: x4 :: some (.ref v) :: L) (.ref v :: S) h := Rg rfl
set_option maxRecDepth 100000 in
theorem e225_2 {L : Lo} {S : List Value} {h : Hp} : Run 225 2 L S h = Run 225 3 L (.int 0 :: S) h := Rg rfl
set_option maxRecDepth 100000 in
theorem e225_3 {L : Lo} {S : List Value} {h : Hp} {v : Nat} : Run 225 3 (some (.ref v) :: L) S h = Run 225 4 (some (.ref v) :: L) (.ref v :: S) h := Rg rfl
set_option maxRecDepth 100000 in
theorem e225_4 {L : Lo} {S : List Value} {h : Hp} {x0 : Option Value} {v : Int32} : Run 225 4 (x0 :: some (.int v) :: L) S h = Run 225 5 (x0 :: some (.int v) :: L) (.int v :: S) h := Rg rfl
set_option maxRecDepth 100000 in
theorem e225_5 {L : Lo} {S : List Value} {h : Hp} {x0 x1 : Option Value} {v : Int32} : Run 225 5 (x0 :: x1 :: some (.int v) :: L) S h = Run 225 6 (x0 :: x1 :: some (.int v) :: L) (.int v :: S) h := Rg rfl
set_option maxRecDepth 100000 in
theorem e225_6 {L : Lo} {S : List Value} {h : Hp} {x0 x1 x2 : Option Value} {v : Int32} : Run 225 6 (x0 :: x1 :: x2 :: some (.int v) :: L) S h = Run 225 7 (x0 :: x1 :: x2 :: some (.int v) :: L) (.int v :: S) h := Rg rfl
set_option maxRecDepth 100000 in
theorem e225_7 {L : Lo} {S : List Value} {h : Hp} {x0 x1 x2 x3 : Option Value} {v : Int32} : Run 225 7 (x0 :: x1 :: x2 :: x3 :: some (.int v) :: L) S h = Run 225 9 (x0 :: x1 :: x2 :: x3 :: some (.int v) :: L) (.int v :: S) h := Rg rfl
set_option maxRecDepth 100000 in
theorem e225_9 {L : Lo} {h : Hp} {a6 : Int32} {a5 : Int32} {a4 : Int32} {a3 : Int32} {a2 : Nat} {a1 : Int32} {a0 : Nat} (hO : isO h a2 8 = true) : Run 225 9 L [.int a6, .int a5, .int a4, .int a3, .ref a2, .int a1, .ref a0] h = (Run 96 0 [some (.ref a2), some (.int a3), some (.int a4), some (.int a5), some (.int a6), none, none] [] h).bind fun o => aft 225 9 12 L [.int a1, .ref a0] o := Rcv (c := 96) (As := [.int a3, .int a4, .int a5, .int a6]) (S' := [.int a1, .ref a0]) (pc' := 12) 8 rfl hO
set_option maxRecDepth 100000 in
theorem e225_12 {L : Lo} {S : List Value} {h : Hp} {x : Int32} : Run 225 12 L (.int x :: S) h = Run 225 13 L (.long x.toInt64 :: S) h := Rg rfl
set_option maxRecDepth 100000 in
theorem e225_13 {L : Lo} {S : List Value} {h : Hp} {v : Int64} {i : Int32} {b : Nat} : Run 225 13 L (.long v :: .int i :: .ref b :: S) h = (paJ h b i v).bind fun h1 => Run 225 14 L S h1 := Rb rfl fun _ => rfl
set_option maxRecDepth 100000 in
theorem e225_14 {L : Lo} {S : List Value} {h : Hp} : Run 225 14 L S h = Run 225 29 L S h := Rg rfl
set_option maxRecDepth 100000 in
theorem e225_19 {L : Lo} {S : List Value} {h : Hp} : Run 225 19 L S h = Run 225 20 L (.int 1 :: S) h := Rg rfl
set_option maxRecDepth 100000 in
theorem e225_20 {L : Lo} {h : Hp} {x : Int32} : Run 225 20 L [.int x] h = some (.inl (some (.int x)), h) := Rd (if_pos (c := narrow .int (.int x) = .int x) rfl)
set_option maxRecDepth 100000 in
theorem e225_23 {L : Lo} {S : List Value} {h : Hp} : Run 225 23 L S h = Run 225 24 L (.int 2 :: S) h := Rg rfl
set_option maxRecDepth 100000 in
theorem e225_24 {L : Lo} {h : Hp} {x : Int32} : Run 225 24 L [.int x] h = some (.inl (some (.int x)), h) := Rd (if_pos (c := narrow .int (.int x) = .int x) rfl)
set_option maxRecDepth 100000 in
theorem e225_27 {L : Lo} {S : List Value} {h : Hp} : Run 225 27 L S h = Run 225 28 L (.int 3 :: S) h := Rg rfl
set_option maxRecDepth 100000 in
theorem e225_28 {L : Lo} {h : Hp} {x : Int32} : Run 225 28 L [.int x] h = some (.inl (some (.int x)), h) := Rd (if_pos (c := narrow .int (.int x) = .int x) rfl)
set_option maxRecDepth 100000 in
theorem e225_29 {L : Lo} {S : List Value} {h : Hp} : Run 225 29 L S h = Run 225 30 L (.int 0 :: S) h := Rg rfl
set_option maxRecDepth 100000 in
theorem e225_30 {L : Lo} {h : Hp} {x : Int32} : Run 225 30 L [.int x] h = some (.inl (some (.int x)), h) := Rd (if_pos (c := narrow .int (.int x) = .int x) rfl)
set_option maxRecDepth 100000 in
theorem e226_0 {L : Lo} {S : List Value} {h : Hp} {x0 x1 x2 : Option Value} {v : Nat} : Run 226 0 (x0 :: x1 :: x2 :: some (.ref v) :: L) S h = Run 226 1 (x0 :: x1 :: x2 :: some (.ref v) :: L) (.ref v :: S) h := Rg rfl
set_option maxRecDepth 100000 in
theorem e226_1 {L : Lo} {S : List Value} {h : Hp} : Run 226 1 L S h = Run 226 2 L (.int 0 :: S) h := Rg rfl
set_option maxRecDepth 100000 in
theorem e226_2 {L : Lo} {S : List Value} {h : Hp} {v : Nat} : Run 226 2 (some (.ref v) :: L) S h = Run 226 3 (some (.ref v) :: L) (.ref v :: S) h := Rg rfl
set_option maxRecDepth 100000 in
theorem e226_3 {L : Lo} {S : List Value} {h : Hp} {x0 : Option Value} {v : Int32} : Run 226 3 (x0 :: some (.int v) :: L) S h = Run 226 4 (x0 :: some (.int v) :: L) (.int v :: S) h := Rg rfl
set_option maxRecDepth 100000 in
theorem e226_4 {L : Lo} {S : List Value} {h : Hp} {x0 x1 : Option Value} {v : Int32} : Run 226 4 (x0 :: x1 :: some (.int v) :: L) S h = Run 226 5 (x0 :: x1 :: some (.int v) :: L) (.int v :: S) h := Rg rfl
set_option maxRecDepth 100000 in
theorem e226_5 {L : Lo} {h : Hp} {a4 : Int32} {a3 : Int32} {a2 : Nat} {a1 : Int32} {a0 : Nat} (hO : isO h a2 8 = true) : Run 226 5 L [.int a4, .int a3, .ref a2, .int a1, .ref a0] h = (Run 97 0 [some (.ref a2), some (.int a3), some (.int a4)] [] h).bind fun o => aft 226 5 8 L [.int a1, .ref a0] o := Rcv (c := 97) (As := [.int a3, .int a4]) (S' := [.int a1, .ref a0]) (pc' := 8) 8 rfl hO
set_option maxRecDepth 100000 in
theorem e226_8 {L : Lo} {S : List Value} {h : Hp} {x : Int32} : Run 226 8 L (.int x :: S) h = Run 226 9 L (.long x.toInt64 :: S) h := Rg rfl
set_option maxRecDepth 100000 in
theorem e226_9 {L : Lo} {S : List Value} {h : Hp} {v : Int64} {i : Int32} {b : Nat} : Run 226 9 L (.long v :: .int i :: .ref b :: S) h = (paJ h b i v).bind fun h1 => Run 226 10 L S h1 := Rb rfl fun _ => rfl
set_option maxRecDepth 100000 in
theorem e226_10 {L : Lo} {S : List Value} {h : Hp} : Run 226 10 L S h = Run 226 25 L S h := Rg rfl
set_option maxRecDepth 100000 in
theorem e226_15 {L : Lo} {S : List Value} {h : Hp} : Run 226 15 L S h = Run 226 16 L (.int 1 :: S) h := Rg rfl
set_option maxRecDepth 100000 in
theorem e226_16 {L : Lo} {h : Hp} {x : Int32} : Run 226 16 L [.int x] h = some (.inl (some (.int x)), h) := Rd (if_pos (c := narrow .int (.int x) = .int x) rfl)
set_option maxRecDepth 100000 in
theorem e226_19 {L : Lo} {S : List Value} {h : Hp} : Run 226 19 L S h = Run 226 20 L (.int 2 :: S) h := Rg rfl
set_option maxRecDepth 100000 in
theorem e226_20 {L : Lo} {h : Hp} {x : Int32} : Run 226 20 L [.int x] h = some (.inl (some (.int x)), h) := Rd (if_pos (c := narrow .int (.int x) = .int x) rfl)
set_option maxRecDepth 100000 in
theorem e226_23 {L : Lo} {S : List Value} {h : Hp} : Run 226 23 L S h = Run 226 24 L (.int 3 :: S) h := Rg rfl
set_option maxRecDepth 100000 in
theorem e226_24 {L : Lo} {h : Hp} {x : Int32} : Run 226 24 L [.int x] h = some (.inl (some (.int x)), h) := Rd (if_pos (c := narrow .int (.int x) = .int x) rfl)
set_option maxRecDepth 100000 in
theorem e226_25 {L : Lo} {S : List Value} {h : Hp} : Run 226 25 L S h = Run 226 26 L (.int 0 :: S) h := Rg rfl
set_option maxRecDepth 100000 in
theorem e226_26 {L : Lo} {h : Hp} {x : Int32} : Run 226 26 L [.int x] h = some (.inl (some (.int x)), h) := Rd (if_pos (c := narrow .int (.int x) = .int x) rfl)
set_option maxRecDepth 100000 in
theorem e227_0 {L : Lo} {S : List Value} {h : Hp} {x0 x1 : Option Value} {v : Nat} : Run 227 0 (x0 :: x1 :: some (.ref v) :: L) S h = Run 227 1 (x0 :: x1 :: some (.ref v) :: L) (.ref v :: S) h := Rg rfl
set_option maxRecDepth 100000 in
theorem e227_1 {L : Lo} {S : List Value} {h : Hp} : Run 227 1 L S h = Run 227 2 L (.int 0 :: S) h := Rg rfl
set_option maxRecDepth 100000 in
theorem e227_2 {L : Lo} {S : List Value} {h : Hp} {v : Nat} : Run 227 2 (some (.ref v) :: L) S h = Run 227 3 (some (.ref v) :: L) (.ref v :: S) h := Rg rfl
set_option maxRecDepth 100000 in
theorem e227_3 {L : Lo} {S : List Value} {h : Hp} {x0 : Option Value} {v : Int32} : Run 227 3 (x0 :: some (.int v) :: L) S h = Run 227 4 (x0 :: some (.int v) :: L) (.int v :: S) h := Rg rfl
set_option maxRecDepth 100000 in
theorem e227_4 {L : Lo} {h : Hp} {a3 : Int32} {a2 : Nat} {a1 : Int32} {a0 : Nat} (hO : isO h a2 8 = true) : Run 227 4 L [.int a3, .ref a2, .int a1, .ref a0] h = (Run 98 0 [some (.ref a2), some (.int a3), none] [] h).bind fun o => aft 227 4 7 L [.int a1, .ref a0] o := Rcv (c := 98) (As := [.int a3]) (S' := [.int a1, .ref a0]) (pc' := 7) 8 rfl hO
set_option maxRecDepth 100000 in
theorem e227_7 {L : Lo} {S : List Value} {h : Hp} {x : Int32} : Run 227 7 L (.int x :: S) h = Run 227 8 L (.long x.toInt64 :: S) h := Rg rfl
set_option maxRecDepth 100000 in
theorem e227_8 {L : Lo} {S : List Value} {h : Hp} {v : Int64} {i : Int32} {b : Nat} : Run 227 8 L (.long v :: .int i :: .ref b :: S) h = (paJ h b i v).bind fun h1 => Run 227 9 L S h1 := Rb rfl fun _ => rfl
set_option maxRecDepth 100000 in
theorem e227_9 {L : Lo} {S : List Value} {h : Hp} : Run 227 9 L S h = Run 227 18 L S h := Rg rfl
set_option maxRecDepth 100000 in
theorem e227_13 {L : Lo} {S : List Value} {h : Hp} : Run 227 13 L S h = Run 227 14 L (.int 1 :: S) h := Rg rfl
set_option maxRecDepth 100000 in
theorem e227_14 {L : Lo} {h : Hp} {x : Int32} : Run 227 14 L [.int x] h = some (.inl (some (.int x)), h) := Rd (if_pos (c := narrow .int (.int x) = .int x) rfl)
set_option maxRecDepth 100000 in
theorem e227_16 {L : Lo} {S : List Value} {h : Hp} : Run 227 16 L S h = Run 227 17 L (.int 2 :: S) h := Rg rfl
set_option maxRecDepth 100000 in
theorem e227_17 {L : Lo} {h : Hp} {x : Int32} : Run 227 17 L [.int x] h = some (.inl (some (.int x)), h) := Rd (if_pos (c := narrow .int (.int x) = .int x) rfl)
set_option maxRecDepth 100000 in
theorem e227_18 {L : Lo} {S : List Value} {h : Hp} : Run 227 18 L S h = Run 227 19 L (.int 0 :: S) h := Rg rfl
set_option maxRecDepth 100000 in
theorem e227_19 {L : Lo} {h : Hp} {x : Int32} : Run 227 19 L [.int x] h = some (.inl (some (.int x)), h) := Rd (if_pos (c := narrow .int (.int x) = .int x) rfl)
set_option maxRecDepth 100000 in
theorem e228_0 {L : Lo} {S : List Value} {h : Hp} {x0 x1 : Option Value} {v : Nat} : Run 228 0 (x0 :: x1 :: some (.ref v) :: L) S h = Run 228 1 (x0 :: x1 :: some (.ref v) :: L) (.ref v :: S) h := Rg rfl
set_option maxRecDepth 100000 in
theorem e228_1 {L : Lo} {S : List Value} {h : Hp} : Run 228 1 L S h = Run 228 2 L (.int 0 :: S) h := Rg rfl
set_option maxRecDepth 100000 in
theorem e228_2 {L : Lo} {S : List Value} {h : Hp} {v : Nat} : Run 228 2 (some (.ref v) :: L) S h = Run 228 3 (some (.ref v) :: L) (.ref v :: S) h := Rg rfl
set_option maxRecDepth 100000 in
theorem e228_3 {L : Lo} {S : List Value} {h : Hp} {x0 : Option Value} {v : Int32} : Run 228 3 (x0 :: some (.int v) :: L) S h = Run 228 4 (x0 :: some (.int v) :: L) (.int v :: S) h := Rg rfl
set_option maxRecDepth 100000 in
theorem e228_4 {L : Lo} {h : Hp} {a3 : Int32} {a2 : Nat} {a1 : Int32} {a0 : Nat} (hO : isO h a2 8 = true) : Run 228 4 L [.int a3, .ref a2, .int a1, .ref a0] h = (Run 99 0 [some (.ref a2), some (.int a3), none] [] h).bind fun o => aft 228 4 7 L [.int a1, .ref a0] o := Rcv (c := 99) (As := [.int a3]) (S' := [.int a1, .ref a0]) (pc' := 7) 8 rfl hO
set_option maxRecDepth 100000 in
theorem e228_7 {L : Lo} {S : List Value} {h : Hp} {x : Int32} : Run 228 7 L (.int x :: S) h = Run 228 8 L (.long x.toInt64 :: S) h := Rg rfl
set_option maxRecDepth 100000 in
theorem e228_8 {L : Lo} {S : List Value} {h : Hp} {v : Int64} {i : Int32} {b : Nat} : Run 228 8 L (.long v :: .int i :: .ref b :: S) h = (paJ h b i v).bind fun h1 => Run 228 9 L S h1 := Rb rfl fun _ => rfl
set_option maxRecDepth 100000 in
theorem e228_9 {L : Lo} {S : List Value} {h : Hp} : Run 228 9 L S h = Run 228 18 L S h := Rg rfl
set_option maxRecDepth 100000 in
theorem e228_13 {L : Lo} {S : List Value} {h : Hp} : Run 228 13 L S h = Run 228 14 L (.int 1 :: S) h := Rg rfl
set_option maxRecDepth 100000 in
theorem e228_14 {L : Lo} {h : Hp} {x : Int32} : Run 228 14 L [.int x] h = some (.inl (some (.int x)), h) := Rd (if_pos (c := narrow .int (.int x) = .int x) rfl)
set_option maxRecDepth 100000 in
theorem e228_16 {L : Lo} {S : List Value} {h : Hp} : Run 228 16 L S h = Run 228 17 L (.int 2 :: S) h := Rg rfl
set_option maxRecDepth 100000 in
theorem e228_17 {L : Lo} {h : Hp} {x : Int32} : Run 228 17 L [.int x] h = some (.inl (some (.int x)), h) := Rd (if_pos (c := narrow .int (.int x) = .int x) rfl)
set_option maxRecDepth 100000 in
theorem e228_18 {L : Lo} {S : List Value} {h : Hp} : Run 228 18 L S h = Run 228 19 L (.int 0 :: S) h := Rg rfl
set_option maxRecDepth 100000 in
theorem e228_19 {L : Lo} {h : Hp} {x : Int32} : Run 228 19 L [.int x] h = some (.inl (some (.int x)), h) := Rd (if_pos (c := narrow .int (.int x) = .int x) rfl)
set_option maxRecDepth 100000 in
theorem e229_0 {L : Lo} {S : List Value} {h : Hp} {x0 x1 : Option Value} {v : Nat} : Run 229 0 (x0 :: x1 :: some (.ref v) :: L) S h = Run 229 1 (x0 :: x1 :: some (.ref v) :: L) (.ref v :: S) h := Rg rfl
set_option maxRecDepth 100000 in
theorem e229_1 {L : Lo} {S : List Value} {h : Hp} : Run 229 1 L S h = Run 229 2 L (.int 0 :: S) h := Rg rfl
set_option maxRecDepth 100000 in
theorem e229_2 {L : Lo} {S : List Value} {h : Hp} {v : Nat} : Run 229 2 (some (.ref v) :: L) S h = Run 229 3 (some (.ref v) :: L) (.ref v :: S) h := Rg rfl
set_option maxRecDepth 100000 in
theorem e229_3 {L : Lo} {S : List Value} {h : Hp} {x0 : Option Value} {v : Int32} : Run 229 3 (x0 :: some (.int v) :: L) S h = Run 229 4 (x0 :: some (.int v) :: L) (.int v :: S) h := Rg rfl
set_option maxRecDepth 100000 in
theorem e229_4 {L : Lo} {h : Hp} {a3 : Int32} {a2 : Nat} {a1 : Int32} {a0 : Nat} (hO : isO h a2 8 = true) : Run 229 4 L [.int a3, .ref a2, .int a1, .ref a0] h = (Run 100 0 [some (.ref a2), some (.int a3)] [] h).bind fun o => aft 229 4 7 L [.int a1, .ref a0] o := Rcv (c := 100) (As := [.int a3]) (S' := [.int a1, .ref a0]) (pc' := 7) 8 rfl hO
set_option maxRecDepth 100000 in
theorem e229_7 {L : Lo} {S : List Value} {h : Hp} {x : Int32} : Run 229 7 L (.int x :: S) h = Run 229 8 L (.long x.toInt64 :: S) h := Rg rfl
set_option maxRecDepth 100000 in
theorem e229_8 {L : Lo} {S : List Value} {h : Hp} {v : Int64} {i : Int32} {b : Nat} : Run 229 8 L (.long v :: .int i :: .ref b :: S) h = (paJ h b i v).bind fun h1 => Run 229 9 L S h1 := Rb rfl fun _ => rfl
set_option maxRecDepth 100000 in
theorem e229_9 {L : Lo} {S : List Value} {h : Hp} : Run 229 9 L S h = Run 229 15 L S h := Rg rfl
set_option maxRecDepth 100000 in
theorem e229_13 {L : Lo} {S : List Value} {h : Hp} : Run 229 13 L S h = Run 229 14 L (.int 1 :: S) h := Rg rfl
set_option maxRecDepth 100000 in
theorem e229_14 {L : Lo} {h : Hp} {x : Int32} : Run 229 14 L [.int x] h = some (.inl (some (.int x)), h) := Rd (if_pos (c := narrow .int (.int x) = .int x) rfl)
set_option maxRecDepth 100000 in
theorem e229_15 {L : Lo} {S : List Value} {h : Hp} : Run 229 15 L S h = Run 229 16 L (.int 0 :: S) h := Rg rfl
set_option maxRecDepth 100000 in
theorem e229_16 {L : Lo} {h : Hp} {x : Int32} : Run 229 16 L [.int x] h = some (.inl (some (.int x)), h) := Rd (if_pos (c := narrow .int (.int x) = .int x) rfl)
set_option maxRecDepth 100000 in
theorem e230_0 {L : Lo} {S : List Value} {h : Hp} {x0 x1 x2 : Option Value} {v : Nat} : Run 230 0 (x0 :: x1 :: x2 :: some (.ref v) :: L) S h = Run 230 1 (x0 :: x1 :: x2 :: some (.ref v) :: L) (.ref v :: S) h := Rg rfl
set_option maxRecDepth 100000 in
theorem e230_1 {L : Lo} {S : List Value} {h : Hp} : Run 230 1 L S h = Run 230 2 L (.int 0 :: S) h := Rg rfl
set_option maxRecDepth 100000 in
theorem e230_2 {L : Lo} {S : List Value} {h : Hp} {v : Nat} : Run 230 2 (some (.ref v) :: L) S h = Run 230 3 (some (.ref v) :: L) (.ref v :: S) h := Rg rfl
set_option maxRecDepth 100000 in
theorem e230_3 {L : Lo} {S : List Value} {h : Hp} {x0 : Option Value} {v : Int32} : Run 230 3 (x0 :: some (.int v) :: L) S h = Run 230 4 (x0 :: some (.int v) :: L) (.int v :: S) h := Rg rfl
set_option maxRecDepth 100000 in
theorem e230_4 {L : Lo} {S : List Value} {h : Hp} {x0 x1 : Option Value} {v : Int32} : Run 230 4 (x0 :: x1 :: some (.int v) :: L) S h = Run 230 5 (x0 :: x1 :: some (.int v) :: L) (.int v :: S) h := Rg rfl
set_option maxRecDepth 100000 in
theorem e230_5 {L : Lo} {h : Hp} {a4 : Int32} {a3 : Int32} {a2 : Nat} {a1 : Int32} {a0 : Nat} (hO : isO h a2 8 = true) : Run 230 5 L [.int a4, .int a3, .ref a2, .int a1, .ref a0] h = (Run 101 0 [some (.ref a2), some (.int a3), some (.int a4)] [] h).bind fun o => aft 230 5 8 L [.int a1, .ref a0] o := Rcv (c := 101) (As := [.int a3, .int a4]) (S' := [.int a1, .ref a0]) (pc' := 8) 8 rfl hO
set_option maxRecDepth 100000 in
theorem e230_8 {L : Lo} {S : List Value} {h : Hp} {x : Int32} : Run 230 8 L (.int x :: S) h = Run 230 9 L (.long x.toInt64 :: S) h := Rg rfl
set_option maxRecDepth 100000 in
theorem e230_9 {L : Lo} {S : List Value} {h : Hp} {v : Int64} {i : Int32} {b : Nat} : Run 230 9 L (.long v :: .int i :: .ref b :: S) h = (paJ h b i v).bind fun h1 => Run 230 10 L S h1 := Rb rfl fun _ => rfl
set_option maxRecDepth 100000 in
theorem e230_10 {L : Lo} {S : List Value} {h : Hp} : Run 230 10 L S h = Run 230 17 L S h := Rg rfl
set_option maxRecDepth 100000 in
theorem e230_15 {L : Lo} {S : List Value} {h : Hp} : Run 230 15 L S h = Run 230 16 L (.int 1 :: S) h := Rg rfl
set_option maxRecDepth 100000 in
theorem e230_16 {L : Lo} {h : Hp} {x : Int32} : Run 230 16 L [.int x] h = some (.inl (some (.int x)), h) := Rd (if_pos (c := narrow .int (.int x) = .int x) rfl)
set_option maxRecDepth 100000 in
theorem e230_17 {L : Lo} {S : List Value} {h : Hp} : Run 230 17 L S h = Run 230 18 L (.int 0 :: S) h := Rg rfl
set_option maxRecDepth 100000 in
theorem e230_18 {L : Lo} {h : Hp} {x : Int32} : Run 230 18 L [.int x] h = some (.inl (some (.int x)), h) := Rd (if_pos (c := narrow .int (.int x) = .int x) rfl)
set_option maxRecDepth 100000 in
theorem e231_0 {L : Lo} {S : List Value} {h : Hp} {x0 x1 : Option Value} {v : Nat} : Run 231 0 (x0 :: x1 :: some (.ref v) :: L) S h = Run 231 1 (x0 :: x1 :: some (.ref v) :: L) (.ref v :: S) h := Rg rfl
set_option maxRecDepth 100000 in
theorem e231_1 {L : Lo} {S : List Value} {h : Hp} : Run 231 1 L S h = Run 231 2 L (.int 0 :: S) h := Rg rfl
set_option maxRecDepth 100000 in
theorem e231_2 {L : Lo} {S : List Value} {h : Hp} {v : Nat} : Run 231 2 (some (.ref v) :: L) S h = Run 231 3 (some (.ref v) :: L) (.ref v :: S) h := Rg rfl
set_option maxRecDepth 100000 in
theorem e231_3 {L : Lo} {S : List Value} {h : Hp} {x0 : Option Value} {v : Int32} : Run 231 3 (x0 :: some (.int v) :: L) S h = Run 231 4 (x0 :: some (.int v) :: L) (.int v :: S) h := Rg rfl
set_option maxRecDepth 100000 in
theorem e231_4 {L : Lo} {h : Hp} {a3 : Int32} {a2 : Nat} {a1 : Int32} {a0 : Nat} (hO : isO h a2 8 = true) : Run 231 4 L [.int a3, .ref a2, .int a1, .ref a0] h = (Run 102 0 [some (.ref a2), some (.int a3)] [] h).bind fun o => aft 231 4 7 L [.int a1, .ref a0] o := Rcv (c := 102) (As := [.int a3]) (S' := [.int a1, .ref a0]) (pc' := 7) 8 rfl hO
set_option maxRecDepth 100000 in
theorem e231_7 {L : Lo} {S : List Value} {h : Hp} {x : Int32} : Run 231 7 L (.int x :: S) h = Run 231 8 L (.long x.toInt64 :: S) h := Rg rfl
set_option maxRecDepth 100000 in
theorem e231_8 {L : Lo} {S : List Value} {h : Hp} {v : Int64} {i : Int32} {b : Nat} : Run 231 8 L (.long v :: .int i :: .ref b :: S) h = (paJ h b i v).bind fun h1 => Run 231 9 L S h1 := Rb rfl fun _ => rfl
set_option maxRecDepth 100000 in
theorem e231_9 {L : Lo} {S : List Value} {h : Hp} : Run 231 9 L S h = Run 231 15 L S h := Rg rfl
set_option maxRecDepth 100000 in
theorem e231_13 {L : Lo} {S : List Value} {h : Hp} : Run 231 13 L S h = Run 231 14 L (.int 1 :: S) h := Rg rfl
set_option maxRecDepth 100000 in
theorem e231_14 {L : Lo} {h : Hp} {x : Int32} : Run 231 14 L [.int x] h = some (.inl (some (.int x)), h) := Rd (if_pos (c := narrow .int (.int x) = .int x) rfl)
set_option maxRecDepth 100000 in
theorem e231_15 {L : Lo} {S : List Value} {h : Hp} : Run 231 15 L S h = Run 231 16 L (.int 0 :: S) h := Rg rfl
set_option maxRecDepth 100000 in
theorem e231_16 {L : Lo} {h : Hp} {x : Int32} : Run 231 16 L [.int x] h = some (.inl (some (.int x)), h) := Rd (if_pos (c := narrow .int (.int x) = .int x) rfl)
set_option maxRecDepth 100000 in
theorem e232_0 {L : Lo} {S : List Value} {h : Hp} {x0 x1 : Option Value} {v : Nat} : Run 232 0 (x0 :: x1 :: some (.ref v) :: L) S h = Run 232 1 (x0 :: x1 :: some (.ref v) :: L) (.ref v :: S) h := Rg rfl
set_option maxRecDepth 100000 in
theorem e232_1 {L : Lo} {S : List Value} {h : Hp} : Run 232 1 L S h = Run 232 2 L (.int 0 :: S) h := Rg rfl
set_option maxRecDepth 100000 in
theorem e232_2 {L : Lo} {S : List Value} {h : Hp} {v : Nat} : Run 232 2 (some (.ref v) :: L) S h = Run 232 3 (some (.ref v) :: L) (.ref v :: S) h := Rg rfl
set_option maxRecDepth 100000 in
theorem e232_3 {L : Lo} {S : List Value} {h : Hp} {x0 : Option Value} {v : Int32} : Run 232 3 (x0 :: some (.int v) :: L) S h = Run 232 4 (x0 :: some (.int v) :: L) (.int v :: S) h := Rg rfl
set_option maxRecDepth 100000 in
theorem e232_4 {L : Lo} {h : Hp} {a3 : Int32} {a2 : Nat} {a1 : Int32} {a0 : Nat} (hO : isO h a2 8 = true) : Run 232 4 L [.int a3, .ref a2, .int a1, .ref a0] h = (Run 103 0 [some (.ref a2), some (.int a3)] [] h).bind fun o => aft 232 4 7 L [.int a1, .ref a0] o := Rcv (c := 103) (As := [.int a3]) (S' := [.int a1, .ref a0]) (pc' := 7) 8 rfl hO
set_option maxRecDepth 100000 in
theorem e232_7 {L : Lo} {S : List Value} {h : Hp} {x : Int32} : Run 232 7 L (.int x :: S) h = Run 232 8 L (.long x.toInt64 :: S) h := Rg rfl
set_option maxRecDepth 100000 in
theorem e232_8 {L : Lo} {S : List Value} {h : Hp} {v : Int64} {i : Int32} {b : Nat} : Run 232 8 L (.long v :: .int i :: .ref b :: S) h = (paJ h b i v).bind fun h1 => Run 232 9 L S h1 := Rb rfl fun _ => rfl
set_option maxRecDepth 100000 in
theorem e232_9 {L : Lo} {S : List Value} {h : Hp} : Run 232 9 L S h = Run 232 15 L S h := Rg rfl
set_option maxRecDepth 100000 in
theorem e232_13 {L : Lo} {S : List Value} {h : Hp} : Run 232 13 L S h = Run 232 14 L (.int 1 :: S) h := Rg rfl
set_option maxRecDepth 100000 in
theorem e232_14 {L : Lo} {h : Hp} {x : Int32} : Run 232 14 L [.int x] h = some (.inl (some (.int x)), h) := Rd (if_pos (c := narrow .int (.int x) = .int x) rfl)
set_option maxRecDepth 100000 in
theorem e232_15 {L : Lo} {S : List Value} {h : Hp} : Run 232 15 L S h = Run 232 16 L (.int 0 :: S) h := Rg rfl
set_option maxRecDepth 100000 in
theorem e232_16 {L : Lo} {h : Hp} {x : Int32} : Run 232 16 L [.int x] h = some (.inl (some (.int x)), h) := Rd (if_pos (c := narrow .int (.int x) = .int x) rfl)
set_option maxRecDepth 100000 in
theorem e233_0 {L : Lo} {S : List Value} {h : Hp} {x0 x1 : Option Value} {v : Nat} : Run 233 0 (x0 :: x1 :: some (.ref v) :: L) S h = Run 233 1 (x0 :: x1 :: some (.ref v) :: L) (.ref v :: S) h := Rg rfl
set_option maxRecDepth 100000 in
theorem e233_1 {L : Lo} {S : List Value} {h : Hp} : Run 233 1 L S h = Run 233 2 L (.int 0 :: S) h := Rg rfl
set_option maxRecDepth 100000 in
theorem e233_2 {L : Lo} {S : List Value} {h : Hp} {v : Nat} : Run 233 2 (some (.ref v) :: L) S h = Run 233 3 (some (.ref v) :: L) (.ref v :: S) h := Rg rfl
set_option maxRecDepth 100000 in
theorem e233_3 {L : Lo} {S : List Value} {h : Hp} {x0 : Option Value} {v : Int32} : Run 233 3 (x0 :: some (.int v) :: L) S h = Run 233 4 (x0 :: some (.int v) :: L) (.int v :: S) h := Rg rfl
set_option maxRecDepth 100000 in
theorem e233_4 {L : Lo} {h : Hp} {a3 : Int32} {a2 : Nat} {a1 : Int32} {a0 : Nat} (hO : isO h a2 8 = true) : Run 233 4 L [.int a3, .ref a2, .int a1, .ref a0] h = (Run 104 0 [some (.ref a2), some (.int a3), none, none] [] h).bind fun o => aft 233 4 7 L [.int a1, .ref a0] o := Rcv (c := 104) (As := [.int a3]) (S' := [.int a1, .ref a0]) (pc' := 7) 8 rfl hO
set_option maxRecDepth 100000 in
theorem e233_7 {L : Lo} {S : List Value} {h : Hp} {v : UInt64} {i : Int32} {b : Nat} : Run 233 7 L (.double v :: .int i :: .ref b :: S) h = (paD h b i v).bind fun h1 => Run 233 8 L S h1 := Rb rfl fun _ => rfl
set_option maxRecDepth 100000 in
theorem e233_8 {L : Lo} {S : List Value} {h : Hp} : Run 233 8 L S h = Run 233 14 L S h := Rg rfl
set_option maxRecDepth 100000 in
theorem e233_12 {L : Lo} {S : List Value} {h : Hp} : Run 233 12 L S h = Run 233 13 L (.int 1 :: S) h := Rg rfl
set_option maxRecDepth 100000 in
theorem e233_13 {L : Lo} {h : Hp} {x : Int32} : Run 233 13 L [.int x] h = some (.inl (some (.int x)), h) := Rd (if_pos (c := narrow .int (.int x) = .int x) rfl)
set_option maxRecDepth 100000 in
theorem e233_14 {L : Lo} {S : List Value} {h : Hp} : Run 233 14 L S h = Run 233 15 L (.int 0 :: S) h := Rg rfl
set_option maxRecDepth 100000 in
theorem e233_15 {L : Lo} {h : Hp} {x : Int32} : Run 233 15 L [.int x] h = some (.inl (some (.int x)), h) := Rd (if_pos (c := narrow .int (.int x) = .int x) rfl)
set_option maxRecDepth 100000 in
theorem e234_0 {L : Lo} {S : List Value} {h : Hp} {x0 x1 : Option Value} {v : Nat} : Run 234 0 (x0 :: x1 :: some (.ref v) :: L) S h = Run 234 1 (x0 :: x1 :: some (.ref v) :: L) (.ref v :: S) h := Rg rfl
set_option maxRecDepth 100000 in
theorem e234_1 {L : Lo} {S : List Value} {h : Hp} : Run 234 1 L S h = Run 234 2 L (.int 0 :: S) h := Rg rfl
set_option maxRecDepth 100000 in
theorem e234_2 {L : Lo} {S : List Value} {h : Hp} {v : Nat} : Run 234 2 (some (.ref v) :: L) S h = Run 234 3 (some (.ref v) :: L) (.ref v :: S) h := Rg rfl
set_option maxRecDepth 100000 in
theorem e234_3 {L : Lo} {S : List Value} {h : Hp} {x0 : Option Value} {v : Int32} : Run 234 3 (x0 :: some (.int v) :: L) S h = Run 234 4 (x0 :: some (.int v) :: L) (.int v :: S) h := Rg rfl
set_option maxRecDepth 100000 in
theorem e234_4 {L : Lo} {h : Hp} {a3 : Int32} {a2 : Nat} {a1 : Int32} {a0 : Nat} (hO : isO h a2 8 = true) : Run 234 4 L [.int a3, .ref a2, .int a1, .ref a0] h = (Run 105 0 [some (.ref a2), some (.int a3)] [] h).bind fun o => aft 234 4 7 L [.int a1, .ref a0] o := Rcv (c := 105) (As := [.int a3]) (S' := [.int a1, .ref a0]) (pc' := 7) 8 rfl hO
set_option maxRecDepth 100000 in
theorem e234_7 {L : Lo} {S : List Value} {h : Hp} {x : Int32} : Run 234 7 L (.int x :: S) h = Run 234 8 L (.long x.toInt64 :: S) h := Rg rfl
set_option maxRecDepth 100000 in
theorem e234_8 {L : Lo} {S : List Value} {h : Hp} {v : Int64} {i : Int32} {b : Nat} : Run 234 8 L (.long v :: .int i :: .ref b :: S) h = (paJ h b i v).bind fun h1 => Run 234 9 L S h1 := Rb rfl fun _ => rfl
set_option maxRecDepth 100000 in
theorem e234_9 {L : Lo} {S : List Value} {h : Hp} : Run 234 9 L S h = Run 234 18 L S h := Rg rfl
set_option maxRecDepth 100000 in
theorem e234_13 {L : Lo} {S : List Value} {h : Hp} : Run 234 13 L S h = Run 234 14 L (.int 1 :: S) h := Rg rfl
set_option maxRecDepth 100000 in
theorem e234_14 {L : Lo} {h : Hp} {x : Int32} : Run 234 14 L [.int x] h = some (.inl (some (.int x)), h) := Rd (if_pos (c := narrow .int (.int x) = .int x) rfl)
set_option maxRecDepth 100000 in
theorem e234_16 {L : Lo} {S : List Value} {h : Hp} : Run 234 16 L S h = Run 234 17 L (.int 2 :: S) h := Rg rfl
set_option maxRecDepth 100000 in
theorem e234_17 {L : Lo} {h : Hp} {x : Int32} : Run 234 17 L [.int x] h = some (.inl (some (.int x)), h) := Rd (if_pos (c := narrow .int (.int x) = .int x) rfl)
set_option maxRecDepth 100000 in
theorem e234_18 {L : Lo} {S : List Value} {h : Hp} : Run 234 18 L S h = Run 234 19 L (.int 0 :: S) h := Rg rfl
set_option maxRecDepth 100000 in
theorem e234_19 {L : Lo} {h : Hp} {x : Int32} : Run 234 19 L [.int x] h = some (.inl (some (.int x)), h) := Rd (if_pos (c := narrow .int (.int x) = .int x) rfl)
set_option maxRecDepth 100000 in
theorem e235_0 {L : Lo} {S : List Value} {h : Hp} {x0 : Option Value} {v : Nat} : Run 235 0 (x0 :: some (.ref v) :: L) S h = Run 235 1 (x0 :: some (.ref v) :: L) (.ref v :: S) h := Rg rfl
set_option maxRecDepth 100000 in
theorem e235_1 {L : Lo} {S : List Value} {h : Hp} : Run 235 1 L S h = Run 235 2 L (.int 0 :: S) h := Rg rfl
set_option maxRecDepth 100000 in
theorem e235_2 {L : Lo} {S : List Value} {h : Hp} {v : Nat} : Run 235 2 (some (.ref v) :: L) S h = Run 235 3 (some (.ref v) :: L) (.ref v :: S) h := Rg rfl
set_option maxRecDepth 100000 in
theorem e235_3 {L : Lo} {h : Hp} {a2 : Nat} {a1 : Int32} {a0 : Nat} (hO : isO h a2 8 = true) : Run 235 3 L [.ref a2, .int a1, .ref a0] h = (Run 108 0 [some (.ref a2)] [] h).bind fun o => aft 235 3 6 L [.int a1, .ref a0] o := Rcv (c := 108) (As := []) (S' := [.int a1, .ref a0]) (pc' := 6) 8 rfl hO
set_option maxRecDepth 100000 in
theorem e235_6 {L : Lo} {S : List Value} {h : Hp} {x : Int32} : Run 235 6 L (.int x :: S) h = Run 235 7 L (.long x.toInt64 :: S) h := Rg rfl
set_option maxRecDepth 100000 in
theorem e235_7 {L : Lo} {S : List Value} {h : Hp} {v : Int64} {i : Int32} {b : Nat} : Run 235 7 L (.long v :: .int i :: .ref b :: S) h = (paJ h b i v).bind fun h1 => Run 235 8 L S h1 := Rb rfl fun _ => rfl
set_option maxRecDepth 100000 in
theorem e235_8 {L : Lo} {S : List Value} {h : Hp} : Run 235 8 L S h = Run 235 14 L S h := Rg rfl
set_option maxRecDepth 100000 in
theorem e235_12 {L : Lo} {S : List Value} {h : Hp} : Run 235 12 L S h = Run 235 13 L (.int 1 :: S) h := Rg rfl
set_option maxRecDepth 100000 in
theorem e235_13 {L : Lo} {h : Hp} {x : Int32} : Run 235 13 L [.int x] h = some (.inl (some (.int x)), h) := Rd (if_pos (c := narrow .int (.int x) = .int x) rfl)
set_option maxRecDepth 100000 in
theorem e235_14 {L : Lo} {S : List Value} {h : Hp} : Run 235 14 L S h = Run 235 15 L (.int 0 :: S) h := Rg rfl
set_option maxRecDepth 100000 in
theorem e235_15 {L : Lo} {h : Hp} {x : Int32} : Run 235 15 L [.int x] h = some (.inl (some (.int x)), h) := Rd (if_pos (c := narrow .int (.int x) = .int x) rfl)
set_option maxRecDepth 100000 in
theorem e236_0 {L : Lo} {S : List Value} {h : Hp} : Run 236 0 L S h = Run 236 3 L (.ref h.1 :: S) (hnew h (blankO 8) 7) := Rg rfl
set_option maxRecDepth 100000 in
theorem e236_3 {L : Lo} {S : List Value} {h : Hp} {v : Nat} : Run 236 3 L (.ref v :: S) h = Run 236 4 L (.ref v :: .ref v :: S) h := Rg rfl
set_option maxRecDepth 100000 in
theorem e236_4 {L : Lo} {h : Hp} {a1 : Nat} {a0 : Nat} : Run 236 4 L [.ref a1, .ref a0] h = (Run 82 0 [some (.ref a1), none] [] h).bind fun o => aft 236 4 7 L [.ref a0] o := Rc (c := 82) (As := [.ref a1]) (S' := [.ref a0]) (pc' := 7) rfl
set_option maxRecDepth 100000 in
theorem e236_7 {L : Lo} {S : List Value} {h : Hp} {x0 : Option Value} {y : Option Value} {v : Nat} : Run 236 7 (x0 :: y :: L) (.ref v :: S) h = Run 236 8 (ck x0 :: some (.ref v) :: L) S h := Rg rfl
set_option maxRecDepth 100000 in
theorem e236_8 {L : Lo} {S : List Value} {h : Hp} : Run 236 8 L S h = Run 236 11 L (.ref h.1 :: S) (hnew h (blankO 9) 11) := Rg rfl
set_option maxRecDepth 100000 in
theorem e236_11 {L : Lo} {S : List Value} {h : Hp} {v : Nat} : Run 236 11 L (.ref v :: S) h = Run 236 12 L (.ref v :: .ref v :: S) h := Rg rfl
set_option maxRecDepth 100000 in
theorem e236_12 {L : Lo} {h : Hp} {a1 : Nat} {a0 : Nat} : Run 236 12 L [.ref a1, .ref a0] h = (Run 115 0 [some (.ref a1)] [] h).bind fun o => aft 236 12 15 L [.ref a0] o := Rc (c := 115) (As := [.ref a1]) (S' := [.ref a0]) (pc' := 15) rfl
set_option maxRecDepth 100000 in
theorem e236_15 {L : Lo} {S : List Value} {h : Hp} {x0 x1 : Option Value} {y : Option Value} {v : Nat} : Run 236 15 (x0 :: x1 :: y :: L) (.ref v :: S) h = Run 236 16 (x0 :: ck x1 :: some (.ref v) :: L) S h := Rg rfl
set_option maxRecDepth 100000 in
theorem e236_16 {L : Lo} {S : List Value} {h : Hp} : Run 236 16 L S h = Run 236 17 L (.int 1 :: S) h := Rg rfl
set_option maxRecDepth 100000 in
theorem e236_17 {L : Lo} {S : List Value} {h : Hp} {N : Int32} (hN : ¬ N < 0 ∧ N.toNatClampNeg ≤ 60000) : Run 236 17 L (.int N :: S) h = Run 236 19 L (.ref h.1 :: S) (hnew h (blank0 3 N.toNatClampNeg) N.toNatClampNeg) := Rg (if_pos hN)
set_option maxRecDepth 100000 in
theorem e236_19 {L : Lo} {S : List Value} {h : Hp} {x0 x1 x2 : Option Value} {y : Option Value} {v : Nat} : Run 236 19 (x0 :: x1 :: x2 :: y :: L) (.ref v :: S) h = Run 236 20 (x0 :: x1 :: ck x2 :: some (.ref v) :: L) S h := Rg rfl
set_option maxRecDepth 100000 in
theorem e236_20 {L : Lo} {S : List Value} {h : Hp} : Run 236 20 L S h = Run 236 21 L (.int 1 :: S) h := Rg rfl
set_option maxRecDepth 100000 in
theorem e236_21 {L : Lo} {S : List Value} {h : Hp} {N : Int32} (hN : ¬ N < 0 ∧ N.toNatClampNeg ≤ 60000) : Run 236 21 L (.int N :: S) h = Run 236 23 L (.ref h.1 :: S) (hnew h (blank0 4 N.toNatClampNeg) N.toNatClampNeg) := Rg (if_pos hN)
set_option maxRecDepth 100000 in
theorem e236_23 {L : Lo} {S : List Value} {h : Hp} {x0 x1 x2 x3 : Option Value} {y : Option Value} {v : Nat} : Run 236 23 (x0 :: x1 :: x2 :: x3 :: y :: L) (.ref v :: S) h = Run 236 25 (x0 :: x1 :: x2 :: ck x3 :: some (.ref v) :: L) S h := Rg rfl
set_option maxRecDepth 100000 in
theorem e236_25 {L : Lo} {S : List Value} {h : Hp} : Run 236 25 L S h = Run 236 26 L (.int 0 :: S) h := Rg rfl
set_option maxRecDepth 100000 in
theorem e236_26 {L : Lo} {S : List Value} {h : Hp} {x0 x1 x2 x3 x4 : Option Value} {y : Option Value} {v : Int32} : Run 236 26 (x0 :: x1 :: x2 :: x3 :: x4 :: y :: L) (.int v :: S) h = Run 236 28 (x0 :: x1 :: x2 :: x3 :: ck x4 :: some (.int v) :: L) S h := Rg rfl
set_option maxRecDepth 100000 in
theorem e236_28 {L : Lo} {S : List Value} {h : Hp} {x0 x1 x2 x3 x4 : Option Value} {v : Int32} : Run 236 28 (x0 :: x1 :: x2 :: x3 :: x4 :: some (.int v) :: L) S h = Run 236 30 (x0 :: x1 :: x2 :: x3 :: x4 :: some (.int v) :: L) (.int v :: S) h := Rg rfl
set_option maxRecDepth 100000 in
theorem e236_30 {L : Lo} {S : List Value} {h : Hp} {v : Nat} : Run 236 30 (some (.ref v) :: L) S h = Run 236 31 (some (.ref v) :: L) (.ref v :: S) h := Rg rfl
set_option maxRecDepth 100000 in
theorem e236_31 {L : Lo} {S : List Value} {h : Hp} {b : Nat} : Run 236 31 L (.ref b :: S) h = (alen h b).bind fun N => Run 236 32 L (.int (Int32.ofNat N) :: S) h := Rb rfl fun _ => rfl
set_option maxRecDepth 100000 in
theorem e236_32 {L : Lo} {S : List Value} {h : Hp} : Run 236 32 L S h = Run 236 34 L (.int 7 :: S) h := Rg rfl
set_option maxRecDepth 100000 in
theorem e236_34 {L : Lo} {S : List Value} {h : Hp} {x z : Int32} : Run 236 34 L (.int z :: .int x :: S) h = Run 236 35 L (.int (x - z) :: S) h := Rg rfl
set_option maxRecDepth 100000 in
theorem e236_35 {L : Lo} {S : List Value} {h : Hp} {x z : Int32} : Run 236 35 L (.int z :: .int x :: S) h = if z < x then Run 236 1818 L S h else Run 236 38 L S h := Rbr (c := cnd .gt x z = true) (off := 1783) rfl rfl cnd_gt
set_option maxRecDepth 100000 in
theorem e236_38 {L : Lo} {S : List Value} {h : Hp} {v : Nat} : Run 236 38 (some (.ref v) :: L) S h = Run 236 39 (some (.ref v) :: L) (.ref v :: S) h := Rg rfl
set_option maxRecDepth 100000 in
theorem e236_39 {L : Lo} {S : List Value} {h : Hp} {x0 x1 x2 x3 x4 : Option Value} {v : Int32} : Run 236 39 (x0 :: x1 :: x2 :: x3 :: x4 :: some (.int v) :: L) S h = Run 236 41 (x0 :: x1 :: x2 :: x3 :: x4 :: some (.int v) :: L) (.int v :: S) h := Rg rfl
set_option maxRecDepth 100000 in
theorem e236_41 {L : Lo} {S : List Value} {h : Hp} {i : Int32} {b : Nat} : Run 236 41 L (.int i :: .ref b :: S) h = (gaI h b i).bind fun v => Run 236 42 L (.int v :: S) h := Rb rfl fun _ => rfl
set_option maxRecDepth 100000 in
theorem e236_42 {L : Lo} {S : List Value} {h : Hp} : Run 236 42 L S h = Run 236 44 L (.int 31 :: S) h := Rg rfl
set_option maxRecDepth 100000 in
theorem e236_44 {L : Lo} {S : List Value} {h : Hp} {x z : Int32} : Run 236 44 L (.int z :: .int x :: S) h = Run 236 45 L (.int (x &&& z) :: S) h := Rg rfl
set_option maxRecDepth 100000 in
theorem e236_45_0 {L : Lo} {S : List Value} {h : Hp} : Run 236 45 L (.int 0 :: S) h = Run 236 168 L S h := Rg rfl
set_option maxRecDepth 100000 in
theorem e236_45_1 {L : Lo} {S : List Value} {h : Hp} : Run 236 45 L (.int 1 :: S) h = Run 236 236 L S h := Rg rfl
set_option maxRecDepth 100000 in
theorem e236_45_2 {L : Lo} {S : List Value} {h : Hp} : Run 236 45 L (.int 2 :: S) h = Run 236 320 L S h := Rg rfl
set_option maxRecDepth 100000 in
theorem e236_45_3 {L : Lo} {S : List Value} {h : Hp} : Run 236 45 L (.int 3 :: S) h = Run 236 388 L S h := Rg rfl
set_option maxRecDepth 100000 in
theorem e236_45_4 {L : Lo} {S : List Value} {h : Hp} : Run 236 45 L (.int 4 :: S) h = Run 236 506 L S h := Rg rfl
set_option maxRecDepth 100000 in
theorem e236_45_5 {L : Lo} {S : List Value} {h : Hp} : Run 236 45 L (.int 5 :: S) h = Run 236 562 L S h := Rg rfl
set_option maxRecDepth 100000 in
theorem e236_45_6 {L : Lo} {S : List Value} {h : Hp} : Run 236 45 L (.int 6 :: S) h = Run 236 630 L S h := Rg rfl
set_option maxRecDepth 100000 in
theorem e236_45_7 {L : Lo} {S : List Value} {h : Hp} : Run 236 45 L (.int 7 :: S) h = Run 236 686 L S h := Rg rfl
set_option maxRecDepth 100000 in
theorem e236_45_8 {L : Lo} {S : List Value} {h : Hp} : Run 236 45 L (.int 8 :: S) h = Run 236 754 L S h := Rg rfl
set_option maxRecDepth 100000 in
theorem e236_45_9 {L : Lo} {S : List Value} {h : Hp} : Run 236 45 L (.int 9 :: S) h = Run 236 822 L S h := Rg rfl
set_option maxRecDepth 100000 in
theorem e236_45_10 {L : Lo} {S : List Value} {h : Hp} : Run 236 45 L (.int 10 :: S) h = Run 236 878 L S h := Rg rfl
set_option maxRecDepth 100000 in
theorem e236_45_11 {L : Lo} {S : List Value} {h : Hp} : Run 236 45 L (.int 11 :: S) h = Run 236 962 L S h := Rg rfl
set_option maxRecDepth 100000 in
theorem e236_45_12 {L : Lo} {S : List Value} {h : Hp} : Run 236 45 L (.int 12 :: S) h = Run 236 975 L S h := Rg rfl
set_option maxRecDepth 100000 in
theorem e236_45_13 {L : Lo} {S : List Value} {h : Hp} : Run 236 45 L (.int 13 :: S) h = Run 236 1071 L S h := Rg rfl
set_option maxRecDepth 100000 in
theorem e236_45_14 {L : Lo} {S : List Value} {h : Hp} : Run 236 45 L (.int 14 :: S) h = Run 236 1179 L S h := Rg rfl
set_option maxRecDepth 100000 in
theorem e236_45_15 {L : Lo} {S : List Value} {h : Hp} : Run 236 45 L (.int 15 :: S) h = Run 236 1247 L S h := Rg rfl
set_option maxRecDepth 100000 in
theorem e236_45_16 {L : Lo} {S : List Value} {h : Hp} : Run 236 45 L (.int 16 :: S) h = Run 236 1303 L S h := Rg rfl
set_option maxRecDepth 100000 in
theorem e236_45_17 {L : Lo} {S : List Value} {h : Hp} : Run 236 45 L (.int 17 :: S) h = Run 236 1359 L S h := Rg rfl
set_option maxRecDepth 100000 in
theorem e236_45_18 {L : Lo} {S : List Value} {h : Hp} : Run 236 45 L (.int 18 :: S) h = Run 236 1415 L S h := Rg rfl
set_option maxRecDepth 100000 in
theorem e236_45_19 {L : Lo} {S : List Value} {h : Hp} : Run 236 45 L (.int 19 :: S) h = Run 236 1483 L S h := Rg rfl
set_option maxRecDepth 100000 in
theorem e236_45_20 {L : Lo} {S : List Value} {h : Hp} : Run 236 45 L (.int 20 :: S) h = Run 236 1539 L S h := Rg rfl
set_option maxRecDepth 100000 in
theorem e236_45_21 {L : Lo} {S : List Value} {h : Hp} : Run 236 45 L (.int 21 :: S) h = Run 236 1595 L S h := Rg rfl
set_option maxRecDepth 100000 in
theorem e236_45_22 {L : Lo} {S : List Value} {h : Hp} : Run 236 45 L (.int 22 :: S) h = Run 236 1672 L S h := Rg rfl
set_option maxRecDepth 100000 in
theorem e236_45_23 {L : Lo} {S : List Value} {h : Hp} : Run 236 45 L (.int 23 :: S) h = Run 236 1728 L S h := Rg rfl
set_option maxRecDepth 100000 in
theorem e236_45_24 {L : Lo} {S : List Value} {h : Hp} : Run 236 45 L (.int 24 :: S) h = Run 236 1741 L S h := Rg rfl
set_option maxRecDepth 100000 in
theorem e236_45_25 {L : Lo} {S : List Value} {h : Hp} : Run 236 45 L (.int 25 :: S) h = Run 236 1754 L S h := Rg rfl
set_option maxRecDepth 100000 in
theorem e236_45_26 {L : Lo} {S : List Value} {h : Hp} : Run 236 45 L (.int 26 :: S) h = Run 236 1798 L S h := Rg rfl
set_option maxRecDepth 100000 in
theorem e236_45_d {L : Lo} {S : List Value} {h : Hp} {x : Int32} (hx : x.toInt < 0 ∨ 26 < x.toInt) : Run 236 45 L (.int x :: S) h = Run 236 1812 L S h := Rg (if_pos hx)
set_option maxRecDepth 100000 in
theorem e236_168 {L : Lo} {S : List Value} {h : Hp} {x0 : Option Value} {v : Nat} : Run 236 168 (x0 :: some (.ref v) :: L) S h = Run 236 169 (x0 :: some (.ref v) :: L) (.ref v :: S) h := Rg rfl
set_option maxRecDepth 100000 in
theorem e236_169 {L : Lo} {S : List Value} {h : Hp} {v : Nat} : Run 236 169 (some (.ref v) :: L) S h = Run 236 170 (some (.ref v) :: L) (.ref v :: S) h := Rg rfl
set_option maxRecDepth 100000 in
theorem e236_170 {L : Lo} {S : List Value} {h : Hp} {x0 x1 x2 x3 x4 : Option Value} {v : Int32} : Run 236 170 (x0 :: x1 :: x2 :: x3 :: x4 :: some (.int v) :: L) S h = Run 236 172 (x0 :: x1 :: x2 :: x3 :: x4 :: some (.int v) :: L) (.int v :: S) h := Rg rfl
set_option maxRecDepth 100000 in
theorem e236_172 {L : Lo} {S : List Value} {h : Hp} : Run 236 172 L S h = Run 236 173 L (.int 1 :: S) h := Rg rfl
set_option maxRecDepth 100000 in
theorem e236_173 {L : Lo} {S : List Value} {h : Hp} {x z : Int32} : Run 236 173 L (.int z :: .int x :: S) h = Run 236 174 L (.int (x + z) :: S) h := Rg rfl
set_option maxRecDepth 100000 in
theorem e236_174 {L : Lo} {S : List Value} {h : Hp} {i : Int32} {b : Nat} : Run 236 174 L (.int i :: .ref b :: S) h = (gaI h b i).bind fun v => Run 236 175 L (.int v :: S) h := Rb rfl fun _ => rfl
set_option maxRecDepth 100000 in
theorem e236_175 {L : Lo} {S : List Value} {h : Hp} {v : Nat} : Run 236 175 (some (.ref v) :: L) S h = Run 236 176 (some (.ref v) :: L) (.ref v :: S) h := Rg rfl
set_option maxRecDepth 100000 in
theorem e236_176 {L : Lo} {S : List Value} {h : Hp} {x0 x1 x2 x3 x4 : Option Value} {v : Int32} : Run 236 176 (x0 :: x1 :: x2 :: x3 :: x4 :: some (.int v) :: L) S h = Run 236 178 (x0 :: x1 :: x2 :: x3 :: x4 :: some (.int v) :: L) (.int v :: S) h := Rg rfl
set_option maxRecDepth 100000 in
theorem e236_178 {L : Lo} {S : List Value} {h : Hp} : Run 236 178 L S h = Run 236 179 L (.int 2 :: S) h := Rg rfl
set_option maxRecDepth 100000 in
theorem e236_179 {L : Lo} {S : List Value} {h : Hp} {x z : Int32} : Run 236 179 L (.int z :: .int x :: S) h = Run 236 180 L (.int (x + z) :: S) h := Rg rfl
set_option maxRecDepth 100000 in
theorem e236_180 {L : Lo} {S : List Value} {h : Hp} {i : Int32} {b : Nat} : Run 236 180 L (.int i :: .ref b :: S) h = (gaI h b i).bind fun v => Run 236 181 L (.int v :: S) h := Rb rfl fun _ => rfl
set_option maxRecDepth 100000 in
theorem e236_181 {L : Lo} {S : List Value} {h : Hp} {x0 x1 x2 : Option Value} {v : Nat} : Run 236 181 (x0 :: x1 :: x2 :: some (.ref v) :: L) S h = Run 236 182 (x0 :: x1 :: x2 :: some (.ref v) :: L) (.ref v :: S) h := Rg rfl
set_option maxRecDepth 100000 in
theorem e236_182 {L : Lo} {h : Hp} {a3 : Nat} {a2 : Int32} {a1 : Int32} {a0 : Nat} : Run 236 182 L [.ref a3, .int a2, .int a1, .ref a0] h = (Run 213 0 [some (.ref a0), some (.int a1), some (.int a2), some (.ref a3), none] [] h).bind fun o => aft 236 182 185 L [] o := Rc (c := 213) (As := [.ref a0, .int a1, .int a2, .ref a3]) (S' := []) (pc' := 185) rfl
set_option maxRecDepth 100000 in
theorem e236_185 {L : Lo} {S : List Value} {h : Hp} {x0 x1 x2 x3 x4 x5 : Option Value} {y : Option Value} {v : Int32} : Run 236 185 (x0 :: x1 :: x2 :: x3 :: x4 :: x5 :: y :: L) (.int v :: S) h = Run 236 187 (x0 :: x1 :: x2 :: x3 :: x4 :: ck x5 :: some (.int v) :: L) S h := Rg rfl
set_option maxRecDepth 100000 in
theorem e236_187 {L : Lo} {S : List Value} {h : Hp} {x0 x1 : Option Value} {v : Nat} : Run 236 187 (x0 :: x1 :: some (.ref v) :: L) S h = Run 236 188 (x0 :: x1 :: some (.ref v) :: L) (.ref v :: S) h := Rg rfl
set_option maxRecDepth 100000 in
theorem e236_188 {L : Lo} {S : List Value} {h : Hp} {v : Nat} : Run 236 188 (some (.ref v) :: L) S h = Run 236 189 (some (.ref v) :: L) (.ref v :: S) h := Rg rfl
set_option maxRecDepth 100000 in
theorem e236_189 {L : Lo} {S : List Value} {h : Hp} {x0 x1 x2 x3 x4 : Option Value} {v : Int32} : Run 236 189 (x0 :: x1 :: x2 :: x3 :: x4 :: some (.int v) :: L) S h = Run 236 191 (x0 :: x1 :: x2 :: x3 :: x4 :: some (.int v) :: L) (.int v :: S) h := Rg rfl
set_option maxRecDepth 100000 in
theorem e236_191 {L : Lo} {S : List Value} {h : Hp} : Run 236 191 L S h = Run 236 192 L (.int 1 :: S) h := Rg rfl
set_option maxRecDepth 100000 in
theorem e236_192 {L : Lo} {S : List Value} {h : Hp} {x z : Int32} : Run 236 192 L (.int z :: .int x :: S) h = Run 236 193 L (.int (x + z) :: S) h := Rg rfl
set_option maxRecDepth 100000 in
theorem e236_193 {L : Lo} {S : List Value} {h : Hp} {i : Int32} {b : Nat} : Run 236 193 L (.int i :: .ref b :: S) h = (gaI h b i).bind fun v => Run 236 194 L (.int v :: S) h := Rb rfl fun _ => rfl
set_option maxRecDepth 100000 in
theorem e236_194 {L : Lo} {S : List Value} {h : Hp} {v : Nat} : Run 236 194 (some (.ref v) :: L) S h = Run 236 195 (some (.ref v) :: L) (.ref v :: S) h := Rg rfl
set_option maxRecDepth 100000 in
theorem e236_195 {L : Lo} {S : List Value} {h : Hp} {x0 x1 x2 x3 x4 : Option Value} {v : Int32} : Run 236 195 (x0 :: x1 :: x2 :: x3 :: x4 :: some (.int v) :: L) S h = Run 236 197 (x0 :: x1 :: x2 :: x3 :: x4 :: some (.int v) :: L) (.int v :: S) h := Rg rfl
set_option maxRecDepth 100000 in
theorem e236_197 {L : Lo} {S : List Value} {h : Hp} : Run 236 197 L S h = Run 236 198 L (.int 2 :: S) h := Rg rfl
set_option maxRecDepth 100000 in
theorem e236_198 {L : Lo} {S : List Value} {h : Hp} {x z : Int32} : Run 236 198 L (.int z :: .int x :: S) h = Run 236 199 L (.int (x + z) :: S) h := Rg rfl
set_option maxRecDepth 100000 in
theorem e236_199 {L : Lo} {S : List Value} {h : Hp} {i : Int32} {b : Nat} : Run 236 199 L (.int i :: .ref b :: S) h = (gaI h b i).bind fun v => Run 236 200 L (.int v :: S) h := Rb rfl fun _ => rfl
set_option maxRecDepth 100000 in
theorem e236_200 {L : Lo} {h : Hp} {a2 : Int32} {a1 : Int32} {a0 : Nat} (hO : isO h a0 9 = true) : Run 236 200 L [.int a2, .int a1, .ref a0] h = (Run 140 0 [some (.ref a0), some (.int a1), some (.int a2), none] [] h).bind fun o => aft 236 200 203 L [] o := Rcv (c := 140) (As := [.int a1, .int a2]) (S' := []) (pc' := 203) 9 rfl hO
set_option maxRecDepth 100000 in
theorem e236_203 {L : Lo} {S : List Value} {h : Hp} {x0 x1 x2 x3 x4 x5 x6 : Option Value} {y : Option Value} {v : Int32} : Run 236 203 (x0 :: x1 :: x2 :: x3 :: x4 :: x5 :: x6 :: y :: L) (.int v :: S) h = Run 236 205 (x0 :: x1 :: x2 :: x3 :: x4 :: x5 :: ck x6 :: some (.int v) :: L) S h := Rg rfl
set_option maxRecDepth 100000 in
theorem e236_205 {L : Lo} {S : List Value} {h : Hp} {x0 x1 : Option Value} {v : Nat} : Run 236 205 (x0 :: x1 :: some (.ref v) :: L) S h = Run 236 206 (x0 :: x1 :: some (.ref v) :: L) (.ref v :: S) h := Rg rfl
set_option maxRecDepth 100000 in
theorem e236_206 {L : Lo} {h : Hp} {a0 : Nat} (hO : isO h a0 9 = true) : Run 236 206 L [.ref a0] h = (Run 117 0 [some (.ref a0)] [] h).bind fun o => aft 236 206 209 L [] o := Rcv (c := 117) (As := []) (S' := []) (pc' := 209) 9 rfl hO
set_option maxRecDepth 100000 in
theorem e236_209 {L : Lo} {S : List Value} {h : Hp} {x0 x1 x2 x3 x4 x5 : Option Value} {v : Int32} : Run 236 209 (x0 :: x1 :: x2 :: x3 :: x4 :: x5 :: some (.int v) :: L) S h = Run 236 211 (x0 :: x1 :: x2 :: x3 :: x4 :: x5 :: some (.int v) :: L) (.int v :: S) h := Rg rfl
set_option maxRecDepth 100000 in
theorem e236_211 {L : Lo} {S : List Value} {h : Hp} {x z : Int32} : Run 236 211 L (.int z :: .int x :: S) h = if x = z then Run 236 216 L S h else Run 236 214 L S h := Rbr (c := cnd .eq x z = true) (off := 5) rfl rfl cnd_eq
set_option maxRecDepth 100000 in
theorem e236_214 {L : Lo} {S : List Value} {h : Hp} : Run 236 214 L S h = Run 236 215 L (.int 0 :: S) h := Rg rfl
set_option maxRecDepth 100000 in
theorem e236_215 {L : Lo} {h : Hp} {x : Int32} (hx : narrow .boolean (.int x) = .int x) : Run 236 215 L [.int x] h = some (.inl (some (.int x)), h) := Rd (if_pos hx)
set_option maxRecDepth 100000 in
theorem e236_216 {L : Lo} {S : List Value} {h : Hp} {x0 x1 x2 x3 x4 x5 : Option Value} {v : Int32} : Run 236 216 (x0 :: x1 :: x2 :: x3 :: x4 :: x5 :: some (.int v) :: L) S h = Run 236 218 (x0 :: x1 :: x2 :: x3 :: x4 :: x5 :: some (.int v) :: L) (.int v :: S) h := Rg rfl
set_option maxRecDepth 100000 in
theorem e236_218 {L : Lo} {S : List Value} {h : Hp} {x : Int32} : Run 236 218 L (.int x :: S) h = if x = 0 then Run 236 221 L S h else Run 236 233 L S h := RbrN (c := cnd .ne x 0 = true) (off := 15) rfl rfl cnd_ne
set_option maxRecDepth 100000 in
theorem e236_221 {L : Lo} {S : List Value} {h : Hp} {x0 x1 x2 : Option Value} {v : Nat} : Run 236 221 (x0 :: x1 :: x2 :: some (.ref v) :: L) S h = Run 236 222 (x0 :: x1 :: x2 :: some (.ref v) :: L) (.ref v :: S) h := Rg rfl
set_option maxRecDepth 100000 in
theorem e236_222 {L : Lo} {S : List Value} {h : Hp} : Run 236 222 L S h = Run 236 223 L (.int 0 :: S) h := Rg rfl
set_option maxRecDepth 100000 in
theorem e236_223 {L : Lo} {S : List Value} {h : Hp} {i : Int32} {b : Nat} : Run 236 223 L (.int i :: .ref b :: S) h = (gaJ h b i).bind fun v => Run 236 224 L (.long v :: S) h := Rb rfl fun _ => rfl
set_option maxRecDepth 100000 in
theorem e236_224 {L : Lo} {S : List Value} {h : Hp} {x0 x1 x2 x3 x4 x5 x6 : Option Value} {v : Int32} : Run 236 224 (x0 :: x1 :: x2 :: x3 :: x4 :: x5 :: x6 :: some (.int v) :: L) S h = Run 236 226 (x0 :: x1 :: x2 :: x3 :: x4 :: x5 :: x6 :: some (.int v) :: L) (.int v :: S) h := Rg rfl
set_option maxRecDepth 100000 in
theorem e236_226 {L : Lo} {S : List Value} {h : Hp} {x : Int32} : Run 236 226 L (.int x :: S) h = Run 236 227 L (.long x.toInt64 :: S) h := Rg rfl
set_option maxRecDepth 100000 in
theorem e236_227 {L : Lo} {S : List Value} {h : Hp} {x z : Int64} : Run 236 227 L (.long z :: .long x :: S) h = Run 236 228 L (.int (lg_cmp x z) :: S) h := Rg rfl
set_option maxRecDepth 100000 in
theorem e236_228 {L : Lo} {S : List Value} {h : Hp} {x : Int32} : Run 236 228 L (.int x :: S) h = if x = 0 then Run 236 233 L S h else Run 236 231 L S h := Rbr (c := cnd .eq x 0 = true) (off := 5) rfl rfl cnd_eq
set_option maxRecDepth 100000 in
theorem e236_231 {L : Lo} {S : List Value} {h : Hp} : Run 236 231 L S h = Run 236 232 L (.int 0 :: S) h := Rg rfl
set_option maxRecDepth 100000 in
theorem e236_232 {L : Lo} {h : Hp} {x : Int32} (hx : narrow .boolean (.int x) = .int x) : Run 236 232 L [.int x] h = some (.inl (some (.int x)), h) := Rd (if_pos hx)
set_option maxRecDepth 100000 in
theorem e236_233 {L : Lo} {S : List Value} {h : Hp} : Run 236 233 L S h = Run 236 1812 L S h := Rg rfl
set_option maxRecDepth 100000 in
theorem e236_236 {L : Lo} {S : List Value} {h : Hp} {x0 : Option Value} {v : Nat} : Run 236 236 (x0 :: some (.ref v) :: L) S h = Run 236 237 (x0 :: some (.ref v) :: L) (.ref v :: S) h := Rg rfl
set_option maxRecDepth 100000 in
theorem e236_237 {L : Lo} {S : List Value} {h : Hp} {v : Nat} : Run 236 237 (some (.ref v) :: L) S h = Run 236 238 (some (.ref v) :: L) (.ref v :: S) h := Rg rfl
set_option maxRecDepth 100000 in
theorem e236_238 {L : Lo} {S : List Value} {h : Hp} {x0 x1 x2 x3 x4 : Option Value} {v : Int32} : Run 236 238 (x0 :: x1 :: x2 :: x3 :: x4 :: some (.int v) :: L) S h = Run 236 240 (x0 :: x1 :: x2 :: x3 :: x4 :: some (.int v) :: L) (.int v :: S) h := Rg rfl
set_option maxRecDepth 100000 in
theorem e236_240 {L : Lo} {S : List Value} {h : Hp} : Run 236 240 L S h = Run 236 241 L (.int 1 :: S) h := Rg rfl
set_option maxRecDepth 100000 in
theorem e236_241 {L : Lo} {S : List Value} {h : Hp} {x z : Int32} : Run 236 241 L (.int z :: .int x :: S) h = Run 236 242 L (.int (x + z) :: S) h := Rg rfl
set_option maxRecDepth 100000 in
theorem e236_242 {L : Lo} {S : List Value} {h : Hp} {i : Int32} {b : Nat} : Run 236 242 L (.int i :: .ref b :: S) h = (gaI h b i).bind fun v => Run 236 243 L (.int v :: S) h := Rb rfl fun _ => rfl
set_option maxRecDepth 100000 in
theorem e236_243 {L : Lo} {S : List Value} {h : Hp} {v : Nat} : Run 236 243 (some (.ref v) :: L) S h = Run 236 244 (some (.ref v) :: L) (.ref v :: S) h := Rg rfl
set_option maxRecDepth 100000 in
theorem e236_244 {L : Lo} {S : List Value} {h : Hp} {x0 x1 x2 x3 x4 : Option Value} {v : Int32} : Run 236 244 (x0 :: x1 :: x2 :: x3 :: x4 :: some (.int v) :: L) S h = Run 236 246 (x0 :: x1 :: x2 :: x3 :: x4 :: some (.int v) :: L) (.int v :: S) h := Rg rfl
set_option maxRecDepth 100000 in
theorem e236_246 {L : Lo} {S : List Value} {h : Hp} : Run 236 246 L S h = Run 236 247 L (.int 2 :: S) h := Rg rfl
set_option maxRecDepth 100000 in
theorem e236_247 {L : Lo} {S : List Value} {h : Hp} {x z : Int32} : Run 236 247 L (.int z :: .int x :: S) h = Run 236 248 L (.int (x + z) :: S) h := Rg rfl
set_option maxRecDepth 100000 in
theorem e236_248 {L : Lo} {S : List Value} {h : Hp} {i : Int32} {b : Nat} : Run 236 248 L (.int i :: .ref b :: S) h = (gaI h b i).bind fun v => Run 236 249 L (.int v :: S) h := Rb rfl fun _ => rfl
set_option maxRecDepth 100000 in
theorem e236_249 {L : Lo} {S : List Value} {h : Hp} {x : Int32} : Run 236 249 L (.int x :: S) h = if x = 0 then Run 236 256 L S h else Run 236 252 L S h := Rbr (c := cnd .eq x 0 = true) (off := 7) rfl rfl cnd_eq
set_option maxRecDepth 100000 in
theorem e236_252 {L : Lo} {S : List Value} {h : Hp} : Run 236 252 L S h = Run 236 253 L (.int 1 :: S) h := Rg rfl
set_option maxRecDepth 100000 in
theorem e236_253 {L : Lo} {S : List Value} {h : Hp} : Run 236 253 L S h = Run 236 257 L S h := Rg rfl
set_option maxRecDepth 100000 in
theorem e236_256 {L : Lo} {S : List Value} {h : Hp} : Run 236 256 L S h = Run 236 257 L (.int 0 :: S) h := Rg rfl
set_option maxRecDepth 100000 in
theorem e236_257 {L : Lo} {S : List Value} {h : Hp} {x0 x1 x2 : Option Value} {v : Nat} : Run 236 257 (x0 :: x1 :: x2 :: some (.ref v) :: L) S h = Run 236 258 (x0 :: x1 :: x2 :: some (.ref v) :: L) (.ref v :: S) h := Rg rfl
set_option maxRecDepth 100000 in
theorem e236_258 {L : Lo} {h : Hp} {a3 : Nat} {a2 : Int32} {a1 : Int32} {a0 : Nat} : Run 236 258 L [.ref a3, .int a2, .int a1, .ref a0] h = (Run 214 0 [some (.ref a0), some (.int a1), some (.int a2), some (.ref a3), none] [] h).bind fun o => aft 236 258 261 L [] o := Rc (c := 214) (As := [.ref a0, .int a1, .int a2, .ref a3]) (S' := []) (pc' := 261) rfl
set_option maxRecDepth 100000 in
theorem e236_261 {L : Lo} {S : List Value} {h : Hp} {x0 x1 x2 x3 x4 x5 : Option Value} {y : Option Value} {v : Int32} : Run 236 261 (x0 :: x1 :: x2 :: x3 :: x4 :: x5 :: y :: L) (.int v :: S) h = Run 236 263 (x0 :: x1 :: x2 :: x3 :: x4 :: ck x5 :: some (.int v) :: L) S h := Rg rfl
set_option maxRecDepth 100000 in
theorem e236_263 {L : Lo} {S : List Value} {h : Hp} {x0 x1 : Option Value} {v : Nat} : Run 236 263 (x0 :: x1 :: some (.ref v) :: L) S h = Run 236 264 (x0 :: x1 :: some (.ref v) :: L) (.ref v :: S) h := Rg rfl
set_option maxRecDepth 100000 in
theorem e236_264 {L : Lo} {S : List Value} {h : Hp} {v : Nat} : Run 236 264 (some (.ref v) :: L) S h = Run 236 265 (some (.ref v) :: L) (.ref v :: S) h := Rg rfl
set_option maxRecDepth 100000 in
theorem e236_265 {L : Lo} {S : List Value} {h : Hp} {x0 x1 x2 x3 x4 : Option Value} {v : Int32} : Run 236 265 (x0 :: x1 :: x2 :: x3 :: x4 :: some (.int v) :: L) S h = Run 236 267 (x0 :: x1 :: x2 :: x3 :: x4 :: some (.int v) :: L) (.int v :: S) h := Rg rfl
set_option maxRecDepth 100000 in
theorem e236_267 {L : Lo} {S : List Value} {h : Hp} : Run 236 267 L S h = Run 236 268 L (.int 1 :: S) h := Rg rfl
set_option maxRecDepth 100000 in
theorem e236_268 {L : Lo} {S : List Value} {h : Hp} {x z : Int32} : Run 236 268 L (.int z :: .int x :: S) h = Run 236 269 L (.int (x + z) :: S) h := Rg rfl
set_option maxRecDepth 100000 in
theorem e236_269 {L : Lo} {S : List Value} {h : Hp} {i : Int32} {b : Nat} : Run 236 269 L (.int i :: .ref b :: S) h = (gaI h b i).bind fun v => Run 236 270 L (.int v :: S) h := Rb rfl fun _ => rfl
set_option maxRecDepth 100000 in
theorem e236_270 {L : Lo} {S : List Value} {h : Hp} {v : Nat} : Run 236 270 (some (.ref v) :: L) S h = Run 236 271 (some (.ref v) :: L) (.ref v :: S) h := Rg rfl
set_option maxRecDepth 100000 in
theorem e236_271 {L : Lo} {S : List Value} {h : Hp} {x0 x1 x2 x3 x4 : Option Value} {v : Int32} : Run 236 271 (x0 :: x1 :: x2 :: x3 :: x4 :: some (.int v) :: L) S h = Run 236 273 (x0 :: x1 :: x2 :: x3 :: x4 :: some (.int v) :: L) (.int v :: S) h := Rg rfl
set_option maxRecDepth 100000 in
theorem e236_273 {L : Lo} {S : List Value} {h : Hp} : Run 236 273 L S h = Run 236 274 L (.int 2 :: S) h := Rg rfl
set_option maxRecDepth 100000 in
theorem e236_274 {L : Lo} {S : List Value} {h : Hp} {x z : Int32} : Run 236 274 L (.int z :: .int x :: S) h = Run 236 275 L (.int (x + z) :: S) h := Rg rfl
set_option maxRecDepth 100000 in
theorem e236_275 {L : Lo} {S : List Value} {h : Hp} {i : Int32} {b : Nat} : Run 236 275 L (.int i :: .ref b :: S) h = (gaI h b i).bind fun v => Run 236 276 L (.int v :: S) h := Rb rfl fun _ => rfl
set_option maxRecDepth 100000 in
theorem e236_276 {L : Lo} {S : List Value} {h : Hp} {x : Int32} : Run 236 276 L (.int x :: S) h = if x = 0 then Run 236 283 L S h else Run 236 279 L S h := Rbr (c := cnd .eq x 0 = true) (off := 7) rfl rfl cnd_eq
set_option maxRecDepth 100000 in
theorem e236_279 {L : Lo} {S : List Value} {h : Hp} : Run 236 279 L S h = Run 236 280 L (.int 1 :: S) h := Rg rfl
set_option maxRecDepth 100000 in
theorem e236_280 {L : Lo} {S : List Value} {h : Hp} : Run 236 280 L S h = Run 236 284 L S h := Rg rfl
set_option maxRecDepth 100000 in
theorem e236_283 {L : Lo} {S : List Value} {h : Hp} : Run 236 283 L S h = Run 236 284 L (.int 0 :: S) h := Rg rfl
set_option maxRecDepth 100000 in
theorem e236_284 {L : Lo} {h : Hp} {a2 : Int32} {a1 : Int32} {a0 : Nat} (hO : isO h a0 9 = true) : Run 236 284 L [.int a2, .int a1, .ref a0] h = (Run 141 0 [some (.ref a0), some (.int a1), some (.int a2), none] [] h).bind fun o => aft 236 284 287 L [] o := Rcv (c := 141) (As := [.int a1, .int a2]) (S' := []) (pc' := 287) 9 rfl hO
set_option maxRecDepth 100000 in
theorem e236_287 {L : Lo} {S : List Value} {h : Hp} {x0 x1 x2 x3 x4 x5 x6 : Option Value} {y : Option Value} {v : Int32} : Run 236 287 (x0 :: x1 :: x2 :: x3 :: x4 :: x5 :: x6 :: y :: L) (.int v :: S) h = Run 236 289 (x0 :: x1 :: x2 :: x3 :: x4 :: x5 :: ck x6 :: some (.int v) :: L) S h := Rg rfl
set_option maxRecDepth 100000 in
theorem e236_289 {L : Lo} {S : List Value} {h : Hp} {x0 x1 : Option Value} {v : Nat} : Run 236 289 (x0 :: x1 :: some (.ref v) :: L) S h = Run 236 290 (x0 :: x1 :: some (.ref v) :: L) (.ref v :: S) h := Rg rfl
set_option maxRecDepth 100000 in
theorem e236_290 {L : Lo} {h : Hp} {a0 : Nat} (hO : isO h a0 9 = true) : Run 236 290 L [.ref a0] h = (Run 117 0 [some (.ref a0)] [] h).bind fun o => aft 236 290 293 L [] o := Rcv (c := 117) (As := []) (S' := []) (pc' := 293) 9 rfl hO
set_option maxRecDepth 100000 in
theorem e236_293 {L : Lo} {S : List Value} {h : Hp} {x0 x1 x2 x3 x4 x5 : Option Value} {v : Int32} : Run 236 293 (x0 :: x1 :: x2 :: x3 :: x4 :: x5 :: some (.int v) :: L) S h = Run 236 295 (x0 :: x1 :: x2 :: x3 :: x4 :: x5 :: some (.int v) :: L) (.int v :: S) h := Rg rfl
set_option maxRecDepth 100000 in
theorem e236_295 {L : Lo} {S : List Value} {h : Hp} {x z : Int32} : Run 236 295 L (.int z :: .int x :: S) h = if x = z then Run 236 300 L S h else Run 236 298 L S h := Rbr (c := cnd .eq x z = true) (off := 5) rfl rfl cnd_eq
set_option maxRecDepth 100000 in
theorem e236_298 {L : Lo} {S : List Value} {h : Hp} : Run 236 298 L S h = Run 236 299 L (.int 0 :: S) h := Rg rfl
set_option maxRecDepth 100000 in
theorem e236_299 {L : Lo} {h : Hp} {x : Int32} (hx : narrow .boolean (.int x) = .int x) : Run 236 299 L [.int x] h = some (.inl (some (.int x)), h) := Rd (if_pos hx)
set_option maxRecDepth 100000 in
theorem e236_300 {L : Lo} {S : List Value} {h : Hp} {x0 x1 x2 x3 x4 x5 : Option Value} {v : Int32} : Run 236 300 (x0 :: x1 :: x2 :: x3 :: x4 :: x5 :: some (.int v) :: L) S h = Run 236 302 (x0 :: x1 :: x2 :: x3 :: x4 :: x5 :: some (.int v) :: L) (.int v :: S) h := Rg rfl
set_option maxRecDepth 100000 in
theorem e236_302 {L : Lo} {S : List Value} {h : Hp} {x : Int32} : Run 236 302 L (.int x :: S) h = if x = 0 then Run 236 305 L S h else Run 236 317 L S h := RbrN (c := cnd .ne x 0 = true) (off := 15) rfl rfl cnd_ne
set_option maxRecDepth 100000 in
theorem e236_305 {L : Lo} {S : List Value} {h : Hp} {x0 x1 x2 : Option Value} {v : Nat} : Run 236 305 (x0 :: x1 :: x2 :: some (.ref v) :: L) S h = Run 236 306 (x0 :: x1 :: x2 :: some (.ref v) :: L) (.ref v :: S) h := Rg rfl
set_option maxRecDepth 100000 in
theorem e236_306 {L : Lo} {S : List Value} {h : Hp} : Run 236 306 L S h = Run 236 307 L (.int 0 :: S) h := Rg rfl
set_option maxRecDepth 100000 in
theorem e236_307 {L : Lo} {S : List Value} {h : Hp} {i : Int32} {b : Nat} : Run 236 307 L (.int i :: .ref b :: S) h = (gaJ h b i).bind fun v => Run 236 308 L (.long v :: S) h := Rb rfl fun _ => rfl
set_option maxRecDepth 100000 in
theorem e236_308 {L : Lo} {S : List Value} {h : Hp} {x0 x1 x2 x3 x4 x5 x6 : Option Value} {v : Int32} : Run 236 308 (x0 :: x1 :: x2 :: x3 :: x4 :: x5 :: x6 :: some (.int v) :: L) S h = Run 236 310 (x0 :: x1 :: x2 :: x3 :: x4 :: x5 :: x6 :: some (.int v) :: L) (.int v :: S) h := Rg rfl
set_option maxRecDepth 100000 in
theorem e236_310 {L : Lo} {S : List Value} {h : Hp} {x : Int32} : Run 236 310 L (.int x :: S) h = Run 236 311 L (.long x.toInt64 :: S) h := Rg rfl
set_option maxRecDepth 100000 in
theorem e236_311 {L : Lo} {S : List Value} {h : Hp} {x z : Int64} : Run 236 311 L (.long z :: .long x :: S) h = Run 236 312 L (.int (lg_cmp x z) :: S) h := Rg rfl
set_option maxRecDepth 100000 in
theorem e236_312 {L : Lo} {S : List Value} {h : Hp} {x : Int32} : Run 236 312 L (.int x :: S) h = if x = 0 then Run 236 317 L S h else Run 236 315 L S h := Rbr (c := cnd .eq x 0 = true) (off := 5) rfl rfl cnd_eq
set_option maxRecDepth 100000 in
theorem e236_315 {L : Lo} {S : List Value} {h : Hp} : Run 236 315 L S h = Run 236 316 L (.int 0 :: S) h := Rg rfl
set_option maxRecDepth 100000 in
theorem e236_316 {L : Lo} {h : Hp} {x : Int32} (hx : narrow .boolean (.int x) = .int x) : Run 236 316 L [.int x] h = some (.inl (some (.int x)), h) := Rd (if_pos hx)
set_option maxRecDepth 100000 in
theorem e236_317 {L : Lo} {S : List Value} {h : Hp} : Run 236 317 L S h = Run 236 1812 L S h := Rg rfl
set_option maxRecDepth 100000 in
theorem e236_320 {L : Lo} {S : List Value} {h : Hp} {x0 : Option Value} {v : Nat} : Run 236 320 (x0 :: some (.ref v) :: L) S h = Run 236 321 (x0 :: some (.ref v) :: L) (.ref v :: S) h := Rg rfl
set_option maxRecDepth 100000 in
theorem e236_321 {L : Lo} {S : List Value} {h : Hp} {v : Nat} : Run 236 321 (some (.ref v) :: L) S h = Run 236 322 (some (.ref v) :: L) (.ref v :: S) h := Rg rfl
set_option maxRecDepth 100000 in
theorem e236_322 {L : Lo} {S : List Value} {h : Hp} {x0 x1 x2 x3 x4 : Option Value} {v : Int32} : Run 236 322 (x0 :: x1 :: x2 :: x3 :: x4 :: some (.int v) :: L) S h = Run 236 324 (x0 :: x1 :: x2 :: x3 :: x4 :: some (.int v) :: L) (.int v :: S) h := Rg rfl
set_option maxRecDepth 100000 in
theorem e236_324 {L : Lo} {S : List Value} {h : Hp} : Run 236 324 L S h = Run 236 325 L (.int 1 :: S) h := Rg rfl
set_option maxRecDepth 100000 in
theorem e236_325 {L : Lo} {S : List Value} {h : Hp} {x z : Int32} : Run 236 325 L (.int z :: .int x :: S) h = Run 236 326 L (.int (x + z) :: S) h := Rg rfl
set_option maxRecDepth 100000 in
theorem e236_326 {L : Lo} {S : List Value} {h : Hp} {i : Int32} {b : Nat} : Run 236 326 L (.int i :: .ref b :: S) h = (gaI h b i).bind fun v => Run 236 327 L (.int v :: S) h := Rb rfl fun _ => rfl
set_option maxRecDepth 100000 in
theorem e236_327 {L : Lo} {S : List Value} {h : Hp} {v : Nat} : Run 236 327 (some (.ref v) :: L) S h = Run 236 328 (some (.ref v) :: L) (.ref v :: S) h := Rg rfl
set_option maxRecDepth 100000 in
theorem e236_328 {L : Lo} {S : List Value} {h : Hp} {x0 x1 x2 x3 x4 : Option Value} {v : Int32} : Run 236 328 (x0 :: x1 :: x2 :: x3 :: x4 :: some (.int v) :: L) S h = Run 236 330 (x0 :: x1 :: x2 :: x3 :: x4 :: some (.int v) :: L) (.int v :: S) h := Rg rfl
set_option maxRecDepth 100000 in
theorem e236_330 {L : Lo} {S : List Value} {h : Hp} : Run 236 330 L S h = Run 236 331 L (.int 2 :: S) h := Rg rfl
set_option maxRecDepth 100000 in
theorem e236_331 {L : Lo} {S : List Value} {h : Hp} {x z : Int32} : Run 236 331 L (.int z :: .int x :: S) h = Run 236 332 L (.int (x + z) :: S) h := Rg rfl
set_option maxRecDepth 100000 in
theorem e236_332 {L : Lo} {S : List Value} {h : Hp} {i : Int32} {b : Nat} : Run 236 332 L (.int i :: .ref b :: S) h = (gaI h b i).bind fun v => Run 236 333 L (.int v :: S) h := Rb rfl fun _ => rfl
set_option maxRecDepth 100000 in
theorem e236_333 {L : Lo} {S : List Value} {h : Hp} {x0 x1 x2 : Option Value} {v : Nat} : Run 236 333 (x0 :: x1 :: x2 :: some (.ref v) :: L) S h = Run 236 334 (x0 :: x1 :: x2 :: some (.ref v) :: L) (.ref v :: S) h := Rg rfl
set_option maxRecDepth 100000 in
theorem e236_334 {L : Lo} {h : Hp} {a3 : Nat} {a2 : Int32} {a1 : Int32} {a0 : Nat} : Run 236 334 L [.ref a3, .int a2, .int a1, .ref a0] h = (Run 215 0 [some (.ref a0), some (.int a1), some (.int a2), some (.ref a3), none] [] h).bind fun o => aft 236 334 337 L [] o := Rc (c := 215) (As := [.ref a0, .int a1, .int a2, .ref a3]) (S' := []) (pc' := 337) rfl
set_option maxRecDepth 100000 in
theorem e236_337 {L : Lo} {S : List Value} {h : Hp} {x0 x1 x2 x3 x4 x5 : Option Value} {y : Option Value} {v : Int32} : Run 236 337 (x0 :: x1 :: x2 :: x3 :: x4 :: x5 :: y :: L) (.int v :: S) h = Run 236 339 (x0 :: x1 :: x2 :: x3 :: x4 :: ck x5 :: some (.int v) :: L) S h := Rg rfl
set_option maxRecDepth 100000 in
theorem e236_339 {L : Lo} {S : List Value} {h : Hp} {x0 x1 : Option Value} {v : Nat} : Run 236 339 (x0 :: x1 :: some (.ref v) :: L) S h = Run 236 340 (x0 :: x1 :: some (.ref v) :: L) (.ref v :: S) h := Rg rfl
set_option maxRecDepth 100000 in
theorem e236_340 {L : Lo} {S : List Value} {h : Hp} {v : Nat} : Run 236 340 (some (.ref v) :: L) S h = Run 236 341 (some (.ref v) :: L) (.ref v :: S) h := Rg rfl
set_option maxRecDepth 100000 in
theorem e236_341 {L : Lo} {S : List Value} {h : Hp} {x0 x1 x2 x3 x4 : Option Value} {v : Int32} : Run 236 341 (x0 :: x1 :: x2 :: x3 :: x4 :: some (.int v) :: L) S h = Run 236 343 (x0 :: x1 :: x2 :: x3 :: x4 :: some (.int v) :: L) (.int v :: S) h := Rg rfl
set_option maxRecDepth 100000 in
theorem e236_343 {L : Lo} {S : List Value} {h : Hp} : Run 236 343 L S h = Run 236 344 L (.int 1 :: S) h := Rg rfl
set_option maxRecDepth 100000 in
theorem e236_344 {L : Lo} {S : List Value} {h : Hp} {x z : Int32} : Run 236 344 L (.int z :: .int x :: S) h = Run 236 345 L (.int (x + z) :: S) h := Rg rfl
set_option maxRecDepth 100000 in
theorem e236_345 {L : Lo} {S : List Value} {h : Hp} {i : Int32} {b : Nat} : Run 236 345 L (.int i :: .ref b :: S) h = (gaI h b i).bind fun v => Run 236 346 L (.int v :: S) h := Rb rfl fun _ => rfl
set_option maxRecDepth 100000 in
theorem e236_346 {L : Lo} {S : List Value} {h : Hp} {v : Nat} : Run 236 346 (some (.ref v) :: L) S h = Run 236 347 (some (.ref v) :: L) (.ref v :: S) h := Rg rfl
set_option maxRecDepth 100000 in
theorem e236_347 {L : Lo} {S : List Value} {h : Hp} {x0 x1 x2 x3 x4 : Option Value} {v : Int32} : Run 236 347 (x0 :: x1 :: x2 :: x3 :: x4 :: some (.int v) :: L) S h = Run 236 349 (x0 :: x1 :: x2 :: x3 :: x4 :: some (.int v) :: L) (.int v :: S) h := Rg rfl
set_option maxRecDepth 100000 in
theorem e236_349 {L : Lo} {S : List Value} {h : Hp} : Run 236 349 L S h = Run 236 350 L (.int 2 :: S) h := Rg rfl
set_option maxRecDepth 100000 in
theorem e236_350 {L : Lo} {S : List Value} {h : Hp} {x z : Int32} : Run 236 350 L (.int z :: .int x :: S) h = Run 236 351 L (.int (x + z) :: S) h := Rg rfl
set_option maxRecDepth 100000 in
theorem e236_351 {L : Lo} {S : List Value} {h : Hp} {i : Int32} {b : Nat} : Run 236 351 L (.int i :: .ref b :: S) h = (gaI h b i).bind fun v => Run 236 352 L (.int v :: S) h := Rb rfl fun _ => rfl
set_option maxRecDepth 100000 in
theorem e236_352 {L : Lo} {h : Hp} {a2 : Int32} {a1 : Int32} {a0 : Nat} (hO : isO h a0 9 = true) : Run 236 352 L [.int a2, .int a1, .ref a0] h = (Run 142 0 [some (.ref a0), some (.int a1), some (.int a2), none] [] h).bind fun o => aft 236 352 355 L [] o := Rcv (c := 142) (As := [.int a1, .int a2]) (S' := []) (pc' := 355) 9 rfl hO
set_option maxRecDepth 100000 in
theorem e236_355 {L : Lo} {S : List Value} {h : Hp} {x0 x1 x2 x3 x4 x5 x6 : Option Value} {y : Option Value} {v : Int32} : Run 236 355 (x0 :: x1 :: x2 :: x3 :: x4 :: x5 :: x6 :: y :: L) (.int v :: S) h = Run 236 357 (x0 :: x1 :: x2 :: x3 :: x4 :: x5 :: ck x6 :: some (.int v) :: L) S h := Rg rfl
set_option maxRecDepth 100000 in
theorem e236_357 {L : Lo} {S : List Value} {h : Hp} {x0 x1 : Option Value} {v : Nat} : Run 236 357 (x0 :: x1 :: some (.ref v) :: L) S h = Run 236 358 (x0 :: x1 :: some (.ref v) :: L) (.ref v :: S) h := Rg rfl
set_option maxRecDepth 100000 in
theorem e236_358 {L : Lo} {h : Hp} {a0 : Nat} (hO : isO h a0 9 = true) : Run 236 358 L [.ref a0] h = (Run 117 0 [some (.ref a0)] [] h).bind fun o => aft 236 358 361 L [] o := Rcv (c := 117) (As := []) (S' := []) (pc' := 361) 9 rfl hO
set_option maxRecDepth 100000 in
theorem e236_361 {L : Lo} {S : List Value} {h : Hp} {x0 x1 x2 x3 x4 x5 : Option Value} {v : Int32} : Run 236 361 (x0 :: x1 :: x2 :: x3 :: x4 :: x5 :: some (.int v) :: L) S h = Run 236 363 (x0 :: x1 :: x2 :: x3 :: x4 :: x5 :: some (.int v) :: L) (.int v :: S) h := Rg rfl
set_option maxRecDepth 100000 in
theorem e236_363 {L : Lo} {S : List Value} {h : Hp} {x z : Int32} : Run 236 363 L (.int z :: .int x :: S) h = if x = z then Run 236 368 L S h else Run 236 366 L S h := Rbr (c := cnd .eq x z = true) (off := 5) rfl rfl cnd_eq
set_option maxRecDepth 100000 in
theorem e236_366 {L : Lo} {S : List Value} {h : Hp} : Run 236 366 L S h = Run 236 367 L (.int 0 :: S) h := Rg rfl
set_option maxRecDepth 100000 in
theorem e236_367 {L : Lo} {h : Hp} {x : Int32} (hx : narrow .boolean (.int x) = .int x) : Run 236 367 L [.int x] h = some (.inl (some (.int x)), h) := Rd (if_pos hx)
set_option maxRecDepth 100000 in
theorem e236_368 {L : Lo} {S : List Value} {h : Hp} {x0 x1 x2 x3 x4 x5 : Option Value} {v : Int32} : Run 236 368 (x0 :: x1 :: x2 :: x3 :: x4 :: x5 :: some (.int v) :: L) S h = Run 236 370 (x0 :: x1 :: x2 :: x3 :: x4 :: x5 :: some (.int v) :: L) (.int v :: S) h := Rg rfl
set_option maxRecDepth 100000 in
theorem e236_370 {L : Lo} {S : List Value} {h : Hp} {x : Int32} : Run 236 370 L (.int x :: S) h = if x = 0 then Run 236 373 L S h else Run 236 385 L S h := RbrN (c := cnd .ne x 0 = true) (off := 15) rfl rfl cnd_ne
set_option maxRecDepth 100000 in
theorem e236_373 {L : Lo} {S : List Value} {h : Hp} {x0 x1 x2 : Option Value} {v : Nat} : Run 236 373 (x0 :: x1 :: x2 :: some (.ref v) :: L) S h = Run 236 374 (x0 :: x1 :: x2 :: some (.ref v) :: L) (.ref v :: S) h := Rg rfl
set_option maxRecDepth 100000 in
theorem e236_374 {L : Lo} {S : List Value} {h : Hp} : Run 236 374 L S h = Run 236 375 L (.int 0 :: S) h := Rg rfl
set_option maxRecDepth 100000 in
theorem e236_375 {L : Lo} {S : List Value} {h : Hp} {i : Int32} {b : Nat} : Run 236 375 L (.int i :: .ref b :: S) h = (gaJ h b i).bind fun v => Run 236 376 L (.long v :: S) h := Rb rfl fun _ => rfl
set_option maxRecDepth 100000 in
theorem e236_376 {L : Lo} {S : List Value} {h : Hp} {x0 x1 x2 x3 x4 x5 x6 : Option Value} {v : Int32} : Run 236 376 (x0 :: x1 :: x2 :: x3 :: x4 :: x5 :: x6 :: some (.int v) :: L) S h = Run 236 378 (x0 :: x1 :: x2 :: x3 :: x4 :: x5 :: x6 :: some (.int v) :: L) (.int v :: S) h := Rg rfl
set_option maxRecDepth 100000 in
theorem e236_378 {L : Lo} {S : List Value} {h : Hp} {x : Int32} : Run 236 378 L (.int x :: S) h = Run 236 379 L (.long x.toInt64 :: S) h := Rg rfl
set_option maxRecDepth 100000 in
theorem e236_379 {L : Lo} {S : List Value} {h : Hp} {x z : Int64} : Run 236 379 L (.long z :: .long x :: S) h = Run 236 380 L (.int (lg_cmp x z) :: S) h := Rg rfl
set_option maxRecDepth 100000 in
theorem e236_380 {L : Lo} {S : List Value} {h : Hp} {x : Int32} : Run 236 380 L (.int x :: S) h = if x = 0 then Run 236 385 L S h else Run 236 383 L S h := Rbr (c := cnd .eq x 0 = true) (off := 5) rfl rfl cnd_eq
set_option maxRecDepth 100000 in
theorem e236_383 {L : Lo} {S : List Value} {h : Hp} : Run 236 383 L S h = Run 236 384 L (.int 0 :: S) h := Rg rfl
set_option maxRecDepth 100000 in
theorem e236_384 {L : Lo} {h : Hp} {x : Int32} (hx : narrow .boolean (.int x) = .int x) : Run 236 384 L [.int x] h = some (.inl (some (.int x)), h) := Rd (if_pos hx)
set_option maxRecDepth 100000 in
theorem e236_385 {L : Lo} {S : List Value} {h : Hp} : Run 236 385 L S h = Run 236 1812 L S h := Rg rfl
set_option maxRecDepth 100000 in
theorem e236_388 {L : Lo} {S : List Value} {h : Hp} {x0 : Option Value} {v : Nat} : Run 236 388 (x0 :: some (.ref v) :: L) S h = Run 236 389 (x0 :: some (.ref v) :: L) (.ref v :: S) h := Rg rfl
set_option maxRecDepth 100000 in
theorem e236_389 {L : Lo} {S : List Value} {h : Hp} {v : Nat} : Run 236 389 (some (.ref v) :: L) S h = Run 236 390 (some (.ref v) :: L) (.ref v :: S) h := Rg rfl
set_option maxRecDepth 100000 in
theorem e236_390 {L : Lo} {S : List Value} {h : Hp} {x0 x1 x2 x3 x4 : Option Value} {v : Int32} : Run 236 390 (x0 :: x1 :: x2 :: x3 :: x4 :: some (.int v) :: L) S h = Run 236 392 (x0 :: x1 :: x2 :: x3 :: x4 :: some (.int v) :: L) (.int v :: S) h := Rg rfl
set_option maxRecDepth 100000 in
theorem e236_392 {L : Lo} {S : List Value} {h : Hp} : Run 236 392 L S h = Run 236 393 L (.int 1 :: S) h := Rg rfl
set_option maxRecDepth 100000 in
theorem e236_393 {L : Lo} {S : List Value} {h : Hp} {x z : Int32} : Run 236 393 L (.int z :: .int x :: S) h = Run 236 394 L (.int (x + z) :: S) h := Rg rfl
set_option maxRecDepth 100000 in
theorem e236_394 {L : Lo} {S : List Value} {h : Hp} {i : Int32} {b : Nat} : Run 236 394 L (.int i :: .ref b :: S) h = (gaI h b i).bind fun v => Run 236 395 L (.int v :: S) h := Rb rfl fun _ => rfl
set_option maxRecDepth 100000 in
theorem e236_395 {L : Lo} {S : List Value} {h : Hp} {v : Nat} : Run 236 395 (some (.ref v) :: L) S h = Run 236 396 (some (.ref v) :: L) (.ref v :: S) h := Rg rfl
set_option maxRecDepth 100000 in
theorem e236_396 {L : Lo} {S : List Value} {h : Hp} {x0 x1 x2 x3 x4 : Option Value} {v : Int32} : Run 236 396 (x0 :: x1 :: x2 :: x3 :: x4 :: some (.int v) :: L) S h = Run 236 398 (x0 :: x1 :: x2 :: x3 :: x4 :: some (.int v) :: L) (.int v :: S) h := Rg rfl
set_option maxRecDepth 100000 in
theorem e236_398 {L : Lo} {S : List Value} {h : Hp} : Run 236 398 L S h = Run 236 399 L (.int 2 :: S) h := Rg rfl
set_option maxRecDepth 100000 in
theorem e236_399 {L : Lo} {S : List Value} {h : Hp} {x z : Int32} : Run 236 399 L (.int z :: .int x :: S) h = Run 236 400 L (.int (x + z) :: S) h := Rg rfl
set_option maxRecDepth 100000 in
theorem e236_400 {L : Lo} {S : List Value} {h : Hp} {i : Int32} {b : Nat} : Run 236 400 L (.int i :: .ref b :: S) h = (gaI h b i).bind fun v => Run 236 401 L (.int v :: S) h := Rb rfl fun _ => rfl
set_option maxRecDepth 100000 in
theorem e236_401 {L : Lo} {S : List Value} {h : Hp} {v : Nat} : Run 236 401 (some (.ref v) :: L) S h = Run 236 402 (some (.ref v) :: L) (.ref v :: S) h := Rg rfl
set_option maxRecDepth 100000 in
theorem e236_402 {L : Lo} {S : List Value} {h : Hp} {x0 x1 x2 x3 x4 : Option Value} {v : Int32} : Run 236 402 (x0 :: x1 :: x2 :: x3 :: x4 :: some (.int v) :: L) S h = Run 236 404 (x0 :: x1 :: x2 :: x3 :: x4 :: some (.int v) :: L) (.int v :: S) h := Rg rfl
set_option maxRecDepth 100000 in
theorem e236_404 {L : Lo} {S : List Value} {h : Hp} : Run 236 404 L S h = Run 236 405 L (.int 3 :: S) h := Rg rfl
set_option maxRecDepth 100000 in
theorem e236_405 {L : Lo} {S : List Value} {h : Hp} {x z : Int32} : Run 236 405 L (.int z :: .int x :: S) h = Run 236 406 L (.int (x + z) :: S) h := Rg rfl
set_option maxRecDepth 100000 in
theorem e236_406 {L : Lo} {S : List Value} {h : Hp} {i : Int32} {b : Nat} : Run 236 406 L (.int i :: .ref b :: S) h = (gaI h b i).bind fun v => Run 236 407 L (.int v :: S) h := Rb rfl fun _ => rfl
set_option maxRecDepth 100000 in
theorem e236_407 {L : Lo} {S : List Value} {h : Hp} {v : Nat} : Run 236 407 (some (.ref v) :: L) S h = Run 236 408 (some (.ref v) :: L) (.ref v :: S) h := Rg rfl
set_option maxRecDepth 100000 in
theorem e236_408 {L : Lo} {S : List Value} {h : Hp} {x0 x1 x2 x3 x4 : Option Value} {v : Int32} : Run 236 408 (x0 :: x1 :: x2 :: x3 :: x4 :: some (.int v) :: L) S h = Run 236 410 (x0 :: x1 :: x2 :: x3 :: x4 :: some (.int v) :: L) (.int v :: S) h := Rg rfl
set_option maxRecDepth 100000 in
theorem e236_410 {L : Lo} {S : List Value} {h : Hp} : Run 236 410 L S h = Run 236 411 L (.int 4 :: S) h := Rg rfl
set_option maxRecDepth 100000 in
theorem e236_411 {L : Lo} {S : List Value} {h : Hp} {x z : Int32} : Run 236 411 L (.int z :: .int x :: S) h = Run 236 412 L (.int (x + z) :: S) h := Rg rfl
set_option maxRecDepth 100000 in
theorem e236_412 {L : Lo} {S : List Value} {h : Hp} {i : Int32} {b : Nat} : Run 236 412 L (.int i :: .ref b :: S) h = (gaI h b i).bind fun v => Run 236 413 L (.int v :: S) h := Rb rfl fun _ => rfl
set_option maxRecDepth 100000 in
theorem e236_413 {L : Lo} {S : List Value} {h : Hp} {v : Nat} : Run 236 413 (some (.ref v) :: L) S h = Run 236 414 (some (.ref v) :: L) (.ref v :: S) h := Rg rfl
set_option maxRecDepth 100000 in
theorem e236_414 {L : Lo} {S : List Value} {h : Hp} {x0 x1 x2 x3 x4 : Option Value} {v : Int32} : Run 236 414 (x0 :: x1 :: x2 :: x3 :: x4 :: some (.int v) :: L) S h = Run 236 416 (x0 :: x1 :: x2 :: x3 :: x4 :: some (.int v) :: L) (.int v :: S) h := Rg rfl
set_option maxRecDepth 100000 in
theorem e236_416 {L : Lo} {S : List Value} {h : Hp} : Run 236 416 L S h = Run 236 417 L (.int 5 :: S) h := Rg rfl
set_option maxRecDepth 100000 in
theorem e236_417 {L : Lo} {S : List Value} {h : Hp} {x z : Int32} : Run 236 417 L (.int z :: .int x :: S) h = Run 236 418 L (.int (x + z) :: S) h := Rg rfl
set_option maxRecDepth 100000 in
theorem e236_418 {L : Lo} {S : List Value} {h : Hp} {i : Int32} {b : Nat} : Run 236 418 L (.int i :: .ref b :: S) h = (gaI h b i).bind fun v => Run 236 419 L (.int v :: S) h := Rb rfl fun _ => rfl
set_option maxRecDepth 100000 in
theorem e236_419 {L : Lo} {S : List Value} {h : Hp} {v : Nat} : Run 236 419 (some (.ref v) :: L) S h = Run 236 420 (some (.ref v) :: L) (.ref v :: S) h := Rg rfl
set_option maxRecDepth 100000 in
theorem e236_420 {L : Lo} {S : List Value} {h : Hp} {x0 x1 x2 x3 x4 : Option Value} {v : Int32} : Run 236 420 (x0 :: x1 :: x2 :: x3 :: x4 :: some (.int v) :: L) S h = Run 236 422 (x0 :: x1 :: x2 :: x3 :: x4 :: some (.int v) :: L) (.int v :: S) h := Rg rfl
set_option maxRecDepth 100000 in
theorem e236_422 {L : Lo} {S : List Value} {h : Hp} : Run 236 422 L S h = Run 236 424 L (.int 6 :: S) h := Rg rfl
set_option maxRecDepth 100000 in
theorem e236_424 {L : Lo} {S : List Value} {h : Hp} {x z : Int32} : Run 236 424 L (.int z :: .int x :: S) h = Run 236 425 L (.int (x + z) :: S) h := Rg rfl
set_option maxRecDepth 100000 in
theorem e236_425 {L : Lo} {S : List Value} {h : Hp} {i : Int32} {b : Nat} : Run 236 425 L (.int i :: .ref b :: S) h = (gaI h b i).bind fun v => Run 236 426 L (.int v :: S) h := Rb rfl fun _ => rfl
set_option maxRecDepth 100000 in
theorem e236_426 {L : Lo} {S : List Value} {h : Hp} {x0 x1 x2 : Option Value} {v : Nat} : Run 236 426 (x0 :: x1 :: x2 :: some (.ref v) :: L) S h = Run 236 427 (x0 :: x1 :: x2 :: some (.ref v) :: L) (.ref v :: S) h := Rg rfl
set_option maxRecDepth 100000 in
theorem e236_427 {L : Lo} {h : Hp} {a7 : Nat} {a6 : Int32} {a5 : Int32} {a4 : Int32} {a3 : Int32} {a2 : Int32} {a1 : Int32} {a0 : Nat} : Run 236 427 L [.ref a7, .int a6, .int a5, .int a4, .int a3, .int a2, .int a1, .ref a0] h = (Run 216 0 [some (.ref a0), some (.int a1), some (.int a2), some (.int a3), some (.int a4), some (.int a5), some (.int a6), some (.ref a7), none] [] h).bind fun o => aft 236 427 430 L [] o := Rc (c := 216) (As := [.ref a0, .int a1, .int a2, .int a3, .int a4, .int a5, .int a6, .ref a7]) (S' := []) (pc' := 430) rfl
set_option maxRecDepth 100000 in
theorem e236_430 {L : Lo} {S : List Value} {h : Hp} {x0 x1 x2 x3 x4 x5 : Option Value} {y : Option Value} {v : Int32} : Run 236 430 (x0 :: x1 :: x2 :: x3 :: x4 :: x5 :: y :: L) (.int v :: S) h = Run 236 432 (x0 :: x1 :: x2 :: x3 :: x4 :: ck x5 :: some (.int v) :: L) S h := Rg rfl
set_option maxRecDepth 100000 in
theorem e236_432 {L : Lo} {S : List Value} {h : Hp} {x0 x1 : Option Value} {v : Nat} : Run 236 432 (x0 :: x1 :: some (.ref v) :: L) S h = Run 236 433 (x0 :: x1 :: some (.ref v) :: L) (.ref v :: S) h := Rg rfl
set_option maxRecDepth 100000 in
theorem e236_433 {L : Lo} {S : List Value} {h : Hp} {v : Nat} : Run 236 433 (some (.ref v) :: L) S h = Run 236 434 (some (.ref v) :: L) (.ref v :: S) h := Rg rfl
set_option maxRecDepth 100000 in
theorem e236_434 {L : Lo} {S : List Value} {h : Hp} {x0 x1 x2 x3 x4 : Option Value} {v : Int32} : Run 236 434 (x0 :: x1 :: x2 :: x3 :: x4 :: some (.int v) :: L) S h = Run 236 436 (x0 :: x1 :: x2 :: x3 :: x4 :: some (.int v) :: L) (.int v :: S) h := Rg rfl
set_option maxRecDepth 100000 in
theorem e236_436 {L : Lo} {S : List Value} {h : Hp} : Run 236 436 L S h = Run 236 437 L (.int 1 :: S) h := Rg rfl
set_option maxRecDepth 100000 in
theorem e236_437 {L : Lo} {S : List Value} {h : Hp} {x z : Int32} : Run 236 437 L (.int z :: .int x :: S) h = Run 236 438 L (.int (x + z) :: S) h := Rg rfl
set_option maxRecDepth 100000 in
theorem e236_438 {L : Lo} {S : List Value} {h : Hp} {i : Int32} {b : Nat} : Run 236 438 L (.int i :: .ref b :: S) h = (gaI h b i).bind fun v => Run 236 439 L (.int v :: S) h := Rb rfl fun _ => rfl
set_option maxRecDepth 100000 in
theorem e236_439 {L : Lo} {S : List Value} {h : Hp} {v : Nat} : Run 236 439 (some (.ref v) :: L) S h = Run 236 440 (some (.ref v) :: L) (.ref v :: S) h := Rg rfl
set_option maxRecDepth 100000 in
theorem e236_440 {L : Lo} {S : List Value} {h : Hp} {x0 x1 x2 x3 x4 : Option Value} {v : Int32} : Run 236 440 (x0 :: x1 :: x2 :: x3 :: x4 :: some (.int v) :: L) S h = Run 236 442 (x0 :: x1 :: x2 :: x3 :: x4 :: some (.int v) :: L) (.int v :: S) h := Rg rfl
set_option maxRecDepth 100000 in
theorem e236_442 {L : Lo} {S : List Value} {h : Hp} : Run 236 442 L S h = Run 236 443 L (.int 2 :: S) h := Rg rfl
set_option maxRecDepth 100000 in
theorem e236_443 {L : Lo} {S : List Value} {h : Hp} {x z : Int32} : Run 236 443 L (.int z :: .int x :: S) h = Run 236 444 L (.int (x + z) :: S) h := Rg rfl
set_option maxRecDepth 100000 in
theorem e236_444 {L : Lo} {S : List Value} {h : Hp} {i : Int32} {b : Nat} : Run 236 444 L (.int i :: .ref b :: S) h = (gaI h b i).bind fun v => Run 236 445 L (.int v :: S) h := Rb rfl fun _ => rfl
set_option maxRecDepth 100000 in
theorem e236_445 {L : Lo} {S : List Value} {h : Hp} {v : Nat} : Run 236 445 (some (.ref v) :: L) S h = Run 236 446 (some (.ref v) :: L) (.ref v :: S) h := Rg rfl
set_option maxRecDepth 100000 in
theorem e236_446 {L : Lo} {S : List Value} {h : Hp} {x0 x1 x2 x3 x4 : Option Value} {v : Int32} : Run 236 446 (x0 :: x1 :: x2 :: x3 :: x4 :: some (.int v) :: L) S h = Run 236 448 (x0 :: x1 :: x2 :: x3 :: x4 :: some (.int v) :: L) (.int v :: S) h := Rg rfl
set_option maxRecDepth 100000 in
theorem e236_448 {L : Lo} {S : List Value} {h : Hp} : Run 236 448 L S h = Run 236 449 L (.int 3 :: S) h := Rg rfl
set_option maxRecDepth 100000 in
theorem e236_449 {L : Lo} {S : List Value} {h : Hp} {x z : Int32} : Run 236 449 L (.int z :: .int x :: S) h = Run 236 450 L (.int (x + z) :: S) h := Rg rfl
set_option maxRecDepth 100000 in
theorem e236_450 {L : Lo} {S : List Value} {h : Hp} {i : Int32} {b : Nat} : Run 236 450 L (.int i :: .ref b :: S) h = (gaI h b i).bind fun v => Run 236 451 L (.int v :: S) h := Rb rfl fun _ => rfl
set_option maxRecDepth 100000 in
theorem e236_451 {L : Lo} {S : List Value} {h : Hp} {v : Nat} : Run 236 451 (some (.ref v) :: L) S h = Run 236 452 (some (.ref v) :: L) (.ref v :: S) h := Rg rfl
set_option maxRecDepth 100000 in
theorem e236_452 {L : Lo} {S : List Value} {h : Hp} {x0 x1 x2 x3 x4 : Option Value} {v : Int32} : Run 236 452 (x0 :: x1 :: x2 :: x3 :: x4 :: some (.int v) :: L) S h = Run 236 454 (x0 :: x1 :: x2 :: x3 :: x4 :: some (.int v) :: L) (.int v :: S) h := Rg rfl
set_option maxRecDepth 100000 in
theorem e236_454 {L : Lo} {S : List Value} {h : Hp} : Run 236 454 L S h = Run 236 455 L (.int 4 :: S) h := Rg rfl
set_option maxRecDepth 100000 in
theorem e236_455 {L : Lo} {S : List Value} {h : Hp} {x z : Int32} : Run 236 455 L (.int z :: .int x :: S) h = Run 236 456 L (.int (x + z) :: S) h := Rg rfl
set_option maxRecDepth 100000 in
theorem e236_456 {L : Lo} {S : List Value} {h : Hp} {i : Int32} {b : Nat} : Run 236 456 L (.int i :: .ref b :: S) h = (gaI h b i).bind fun v => Run 236 457 L (.int v :: S) h := Rb rfl fun _ => rfl
set_option maxRecDepth 100000 in
theorem e236_457 {L : Lo} {S : List Value} {h : Hp} {v : Nat} : Run 236 457 (some (.ref v) :: L) S h = Run 236 458 (some (.ref v) :: L) (.ref v :: S) h := Rg rfl
set_option maxRecDepth 100000 in
theorem e236_458 {L : Lo} {S : List Value} {h : Hp} {x0 x1 x2 x3 x4 : Option Value} {v : Int32} : Run 236 458 (x0 :: x1 :: x2 :: x3 :: x4 :: some (.int v) :: L) S h = Run 236 460 (x0 :: x1 :: x2 :: x3 :: x4 :: some (.int v) :: L) (.int v :: S) h := Rg rfl
set_option maxRecDepth 100000 in
theorem e236_460 {L : Lo} {S : List Value} {h : Hp} : Run 236 460 L S h = Run 236 461 L (.int 5 :: S) h := Rg rfl
set_option maxRecDepth 100000 in
theorem e236_461 {L : Lo} {S : List Value} {h : Hp} {x z : Int32} : Run 236 461 L (.int z :: .int x :: S) h = Run 236 462 L (.int (x + z) :: S) h := Rg rfl
set_option maxRecDepth 100000 in
theorem e236_462 {L : Lo} {S : List Value} {h : Hp} {i : Int32} {b : Nat} : Run 236 462 L (.int i :: .ref b :: S) h = (gaI h b i).bind fun v => Run 236 463 L (.int v :: S) h := Rb rfl fun _ => rfl
set_option maxRecDepth 100000 in
theorem e236_463 {L : Lo} {S : List Value} {h : Hp} {v : Nat} : Run 236 463 (some (.ref v) :: L) S h = Run 236 464 (some (.ref v) :: L) (.ref v :: S) h := Rg rfl
set_option maxRecDepth 100000 in
theorem e236_464 {L : Lo} {S : List Value} {h : Hp} {x0 x1 x2 x3 x4 : Option Value} {v : Int32} : Run 236 464 (x0 :: x1 :: x2 :: x3 :: x4 :: some (.int v) :: L) S h = Run 236 466 (x0 :: x1 :: x2 :: x3 :: x4 :: some (.int v) :: L) (.int v :: S) h := Rg rfl
set_option maxRecDepth 100000 in
theorem e236_466 {L : Lo} {S : List Value} {h : Hp} : Run 236 466 L S h = Run 236 468 L (.int 6 :: S) h := Rg rfl
set_option maxRecDepth 100000 in
theorem e236_468 {L : Lo} {S : List Value} {h : Hp} {x z : Int32} : Run 236 468 L (.int z :: .int x :: S) h = Run 236 469 L (.int (x + z) :: S) h := Rg rfl
set_option maxRecDepth 100000 in
theorem e236_469 {L : Lo} {S : List Value} {h : Hp} {i : Int32} {b : Nat} : Run 236 469 L (.int i :: .ref b :: S) h = (gaI h b i).bind fun v => Run 236 470 L (.int v :: S) h := Rb rfl fun _ => rfl
set_option maxRecDepth 100000 in
theorem e236_470 {L : Lo} {h : Hp} {a6 : Int32} {a5 : Int32} {a4 : Int32} {a3 : Int32} {a2 : Int32} {a1 : Int32} {a0 : Nat} (hO : isO h a0 9 = true) : Run 236 470 L [.int a6, .int a5, .int a4, .int a3, .int a2, .int a1, .ref a0] h = (Run 148 0 [some (.ref a0), some (.int a1), some (.int a2), some (.int a3), some (.int a4), some (.int a5), some (.int a6), none] [] h).bind fun o => aft 236 470 473 L [] o := Rcv (c := 148) (As := [.int a1, .int a2, .int a3, .int a4, .int a5, .int a6]) (S' := []) (pc' := 473) 9 rfl hO
set_option maxRecDepth 100000 in
theorem e236_473 {L : Lo} {S : List Value} {h : Hp} {x0 x1 x2 x3 x4 x5 x6 : Option Value} {y : Option Value} {v : Int32} : Run 236 473 (x0 :: x1 :: x2 :: x3 :: x4 :: x5 :: x6 :: y :: L) (.int v :: S) h = Run 236 475 (x0 :: x1 :: x2 :: x3 :: x4 :: x5 :: ck x6 :: some (.int v) :: L) S h := Rg rfl
set_option maxRecDepth 100000 in
theorem e236_475 {L : Lo} {S : List Value} {h : Hp} {x0 x1 : Option Value} {v : Nat} : Run 236 475 (x0 :: x1 :: some (.ref v) :: L) S h = Run 236 476 (x0 :: x1 :: some (.ref v) :: L) (.ref v :: S) h := Rg rfl
set_option maxRecDepth 100000 in
theorem e236_476 {L : Lo} {h : Hp} {a0 : Nat} (hO : isO h a0 9 = true) : Run 236 476 L [.ref a0] h = (Run 117 0 [some (.ref a0)] [] h).bind fun o => aft 236 476 479 L [] o := Rcv (c := 117) (As := []) (S' := []) (pc' := 479) 9 rfl hO
set_option maxRecDepth 100000 in
theorem e236_479 {L : Lo} {S : List Value} {h : Hp} {x0 x1 x2 x3 x4 x5 : Option Value} {v : Int32} : Run 236 479 (x0 :: x1 :: x2 :: x3 :: x4 :: x5 :: some (.int v) :: L) S h = Run 236 481 (x0 :: x1 :: x2 :: x3 :: x4 :: x5 :: some (.int v) :: L) (.int v :: S) h := Rg rfl
set_option maxRecDepth 100000 in
theorem e236_481 {L : Lo} {S : List Value} {h : Hp} {x z : Int32} : Run 236 481 L (.int z :: .int x :: S) h = if x = z then Run 236 486 L S h else Run 236 484 L S h := Rbr (c := cnd .eq x z = true) (off := 5) rfl rfl cnd_eq
set_option maxRecDepth 100000 in
theorem e236_484 {L : Lo} {S : List Value} {h : Hp} : Run 236 484 L S h = Run 236 485 L (.int 0 :: S) h := Rg rfl
set_option maxRecDepth 100000 in
theorem e236_485 {L : Lo} {h : Hp} {x : Int32} (hx : narrow .boolean (.int x) = .int x) : Run 236 485 L [.int x] h = some (.inl (some (.int x)), h) := Rd (if_pos hx)
set_option maxRecDepth 100000 in
theorem e236_486 {L : Lo} {S : List Value} {h : Hp} {x0 x1 x2 x3 x4 x5 : Option Value} {v : Int32} : Run 236 486 (x0 :: x1 :: x2 :: x3 :: x4 :: x5 :: some (.int v) :: L) S h = Run 236 488 (x0 :: x1 :: x2 :: x3 :: x4 :: x5 :: some (.int v) :: L) (.int v :: S) h := Rg rfl
set_option maxRecDepth 100000 in
theorem e236_488 {L : Lo} {S : List Value} {h : Hp} {x : Int32} : Run 236 488 L (.int x :: S) h = if x = 0 then Run 236 491 L S h else Run 236 503 L S h := RbrN (c := cnd .ne x 0 = true) (off := 15) rfl rfl cnd_ne
set_option maxRecDepth 100000 in
theorem e236_491 {L : Lo} {S : List Value} {h : Hp} {x0 x1 x2 : Option Value} {v : Nat} : Run 236 491 (x0 :: x1 :: x2 :: some (.ref v) :: L) S h = Run 236 492 (x0 :: x1 :: x2 :: some (.ref v) :: L) (.ref v :: S) h := Rg rfl
set_option maxRecDepth 100000 in
theorem e236_492 {L : Lo} {S : List Value} {h : Hp} : Run 236 492 L S h = Run 236 493 L (.int 0 :: S) h := Rg rfl
set_option maxRecDepth 100000 in
theorem e236_493 {L : Lo} {S : List Value} {h : Hp} {i : Int32} {b : Nat} : Run 236 493 L (.int i :: .ref b :: S) h = (gaJ h b i).bind fun v => Run 236 494 L (.long v :: S) h := Rb rfl fun _ => rfl
set_option maxRecDepth 100000 in
theorem e236_494 {L : Lo} {S : List Value} {h : Hp} {x0 x1 x2 x3 x4 x5 x6 : Option Value} {v : Int32} : Run 236 494 (x0 :: x1 :: x2 :: x3 :: x4 :: x5 :: x6 :: some (.int v) :: L) S h = Run 236 496 (x0 :: x1 :: x2 :: x3 :: x4 :: x5 :: x6 :: some (.int v) :: L) (.int v :: S) h := Rg rfl
set_option maxRecDepth 100000 in
theorem e236_496 {L : Lo} {S : List Value} {h : Hp} {x : Int32} : Run 236 496 L (.int x :: S) h = Run 236 497 L (.long x.toInt64 :: S) h := Rg rfl
set_option maxRecDepth 100000 in
theorem e236_497 {L : Lo} {S : List Value} {h : Hp} {x z : Int64} : Run 236 497 L (.long z :: .long x :: S) h = Run 236 498 L (.int (lg_cmp x z) :: S) h := Rg rfl
set_option maxRecDepth 100000 in
theorem e236_498 {L : Lo} {S : List Value} {h : Hp} {x : Int32} : Run 236 498 L (.int x :: S) h = if x = 0 then Run 236 503 L S h else Run 236 501 L S h := Rbr (c := cnd .eq x 0 = true) (off := 5) rfl rfl cnd_eq
set_option maxRecDepth 100000 in
theorem e236_501 {L : Lo} {S : List Value} {h : Hp} : Run 236 501 L S h = Run 236 502 L (.int 0 :: S) h := Rg rfl
set_option maxRecDepth 100000 in
theorem e236_502 {L : Lo} {h : Hp} {x : Int32} (hx : narrow .boolean (.int x) = .int x) : Run 236 502 L [.int x] h = some (.inl (some (.int x)), h) := Rd (if_pos hx)
set_option maxRecDepth 100000 in
theorem e236_503 {L : Lo} {S : List Value} {h : Hp} : Run 236 503 L S h = Run 236 1812 L S h := Rg rfl
set_option maxRecDepth 100000 in
theorem e236_506 {L : Lo} {S : List Value} {h : Hp} {x0 : Option Value} {v : Nat} : Run 236 506 (x0 :: some (.ref v) :: L) S h = Run 236 507 (x0 :: some (.ref v) :: L) (.ref v :: S) h := Rg rfl
set_option maxRecDepth 100000 in
theorem e236_507 {L : Lo} {S : List Value} {h : Hp} {v : Nat} : Run 236 507 (some (.ref v) :: L) S h = Run 236 508 (some (.ref v) :: L) (.ref v :: S) h := Rg rfl
set_option maxRecDepth 100000 in
theorem e236_508 {L : Lo} {S : List Value} {h : Hp} {x0 x1 x2 x3 x4 : Option Value} {v : Int32} : Run 236 508 (x0 :: x1 :: x2 :: x3 :: x4 :: some (.int v) :: L) S h = Run 236 510 (x0 :: x1 :: x2 :: x3 :: x4 :: some (.int v) :: L) (.int v :: S) h := Rg rfl
set_option maxRecDepth 100000 in
theorem e236_510 {L : Lo} {S : List Value} {h : Hp} : Run 236 510 L S h = Run 236 511 L (.int 1 :: S) h := Rg rfl
set_option maxRecDepth 100000 in
theorem e236_511 {L : Lo} {S : List Value} {h : Hp} {x z : Int32} : Run 236 511 L (.int z :: .int x :: S) h = Run 236 512 L (.int (x + z) :: S) h := Rg rfl
set_option maxRecDepth 100000 in
theorem e236_512 {L : Lo} {S : List Value} {h : Hp} {i : Int32} {b : Nat} : Run 236 512 L (.int i :: .ref b :: S) h = (gaI h b i).bind fun v => Run 236 513 L (.int v :: S) h := Rb rfl fun _ => rfl
set_option maxRecDepth 100000 in
theorem e236_513 {L : Lo} {S : List Value} {h : Hp} {x0 x1 x2 : Option Value} {v : Nat} : Run 236 513 (x0 :: x1 :: x2 :: some (.ref v) :: L) S h = Run 236 514 (x0 :: x1 :: x2 :: some (.ref v) :: L) (.ref v :: S) h := Rg rfl
set_option maxRecDepth 100000 in
theorem e236_514 {L : Lo} {h : Hp} {a2 : Nat} {a1 : Int32} {a0 : Nat} : Run 236 514 L [.ref a2, .int a1, .ref a0] h = (Run 217 0 [some (.ref a0), some (.int a1), some (.ref a2), none] [] h).bind fun o => aft 236 514 517 L [] o := Rc (c := 217) (As := [.ref a0, .int a1, .ref a2]) (S' := []) (pc' := 517) rfl
set_option maxRecDepth 100000 in
theorem e236_517 {L : Lo} {S : List Value} {h : Hp} {x0 x1 x2 x3 x4 x5 : Option Value} {y : Option Value} {v : Int32} : Run 236 517 (x0 :: x1 :: x2 :: x3 :: x4 :: x5 :: y :: L) (.int v :: S) h = Run 236 519 (x0 :: x1 :: x2 :: x3 :: x4 :: ck x5 :: some (.int v) :: L) S h := Rg rfl
set_option maxRecDepth 100000 in
theorem e236_519 {L : Lo} {S : List Value} {h : Hp} {x0 x1 : Option Value} {v : Nat} : Run 236 519 (x0 :: x1 :: some (.ref v) :: L) S h = Run 236 520 (x0 :: x1 :: some (.ref v) :: L) (.ref v :: S) h := Rg rfl
set_option maxRecDepth 100000 in
theorem e236_520 {L : Lo} {S : List Value} {h : Hp} {v : Nat} : Run 236 520 (some (.ref v) :: L) S h = Run 236 521 (some (.ref v) :: L) (.ref v :: S) h := Rg rfl
set_option maxRecDepth 100000 in
theorem e236_521 {L : Lo} {S : List Value} {h : Hp} {x0 x1 x2 x3 x4 : Option Value} {v : Int32} : Run 236 521 (x0 :: x1 :: x2 :: x3 :: x4 :: some (.int v) :: L) S h = Run 236 523 (x0 :: x1 :: x2 :: x3 :: x4 :: some (.int v) :: L) (.int v :: S) h := Rg rfl
set_option maxRecDepth 100000 in
theorem e236_523 {L : Lo} {S : List Value} {h : Hp} : Run 236 523 L S h = Run 236 524 L (.int 1 :: S) h := Rg rfl
set_option maxRecDepth 100000 in
theorem e236_524 {L : Lo} {S : List Value} {h : Hp} {x z : Int32} : Run 236 524 L (.int z :: .int x :: S) h = Run 236 525 L (.int (x + z) :: S) h := Rg rfl
set_option maxRecDepth 100000 in
theorem e236_525 {L : Lo} {S : List Value} {h : Hp} {i : Int32} {b : Nat} : Run 236 525 L (.int i :: .ref b :: S) h = (gaI h b i).bind fun v => Run 236 526 L (.int v :: S) h := Rb rfl fun _ => rfl
set_option maxRecDepth 100000 in
theorem e236_526 {L : Lo} {h : Hp} {a1 : Int32} {a0 : Nat} (hO : isO h a0 9 = true) : Run 236 526 L [.int a1, .ref a0] h = (Run 152 0 [some (.ref a0), some (.int a1)] [] h).bind fun o => aft 236 526 529 L [] o := Rcv (c := 152) (As := [.int a1]) (S' := []) (pc' := 529) 9 rfl hO
set_option maxRecDepth 100000 in
theorem e236_529 {L : Lo} {S : List Value} {h : Hp} {x0 x1 x2 x3 x4 x5 x6 : Option Value} {y : Option Value} {v : Int32} : Run 236 529 (x0 :: x1 :: x2 :: x3 :: x4 :: x5 :: x6 :: y :: L) (.int v :: S) h = Run 236 531 (x0 :: x1 :: x2 :: x3 :: x4 :: x5 :: ck x6 :: some (.int v) :: L) S h := Rg rfl
set_option maxRecDepth 100000 in
theorem e236_531 {L : Lo} {S : List Value} {h : Hp} {x0 x1 : Option Value} {v : Nat} : Run 236 531 (x0 :: x1 :: some (.ref v) :: L) S h = Run 236 532 (x0 :: x1 :: some (.ref v) :: L) (.ref v :: S) h := Rg rfl
set_option maxRecDepth 100000 in
theorem e236_532 {L : Lo} {h : Hp} {a0 : Nat} (hO : isO h a0 9 = true) : Run 236 532 L [.ref a0] h = (Run 117 0 [some (.ref a0)] [] h).bind fun o => aft 236 532 535 L [] o := Rcv (c := 117) (As := []) (S' := []) (pc' := 535) 9 rfl hO
set_option maxRecDepth 100000 in
theorem e236_535 {L : Lo} {S : List Value} {h : Hp} {x0 x1 x2 x3 x4 x5 : Option Value} {v : Int32} : Run 236 535 (x0 :: x1 :: x2 :: x3 :: x4 :: x5 :: some (.int v) :: L) S h = Run 236 537 (x0 :: x1 :: x2 :: x3 :: x4 :: x5 :: some (.int v) :: L) (.int v :: S) h := Rg rfl
set_option maxRecDepth 100000 in
theorem e236_537 {L : Lo} {S : List Value} {h : Hp} {x z : Int32} : Run 236 537 L (.int z :: .int x :: S) h = if x = z then Run 236 542 L S h else Run 236 540 L S h := Rbr (c := cnd .eq x z = true) (off := 5) rfl rfl cnd_eq
set_option maxRecDepth 100000 in
theorem e236_540 {L : Lo} {S : List Value} {h : Hp} : Run 236 540 L S h = Run 236 541 L (.int 0 :: S) h := Rg rfl
set_option maxRecDepth 100000 in
theorem e236_541 {L : Lo} {h : Hp} {x : Int32} (hx : narrow .boolean (.int x) = .int x) : Run 236 541 L [.int x] h = some (.inl (some (.int x)), h) := Rd (if_pos hx)
set_option maxRecDepth 100000 in
theorem e236_542 {L : Lo} {S : List Value} {h : Hp} {x0 x1 x2 x3 x4 x5 : Option Value} {v : Int32} : Run 236 542 (x0 :: x1 :: x2 :: x3 :: x4 :: x5 :: some (.int v) :: L) S h = Run 236 544 (x0 :: x1 :: x2 :: x3 :: x4 :: x5 :: some (.int v) :: L) (.int v :: S) h := Rg rfl
set_option maxRecDepth 100000 in
theorem e236_544 {L : Lo} {S : List Value} {h : Hp} {x : Int32} : Run 236 544 L (.int x :: S) h = if x = 0 then Run 236 547 L S h else Run 236 559 L S h := RbrN (c := cnd .ne x 0 = true) (off := 15) rfl rfl cnd_ne
set_option maxRecDepth 100000 in
theorem e236_547 {L : Lo} {S : List Value} {h : Hp} {x0 x1 x2 : Option Value} {v : Nat} : Run 236 547 (x0 :: x1 :: x2 :: some (.ref v) :: L) S h = Run 236 548 (x0 :: x1 :: x2 :: some (.ref v) :: L) (.ref v :: S) h := Rg rfl
set_option maxRecDepth 100000 in
theorem e236_548 {L : Lo} {S : List Value} {h : Hp} : Run 236 548 L S h = Run 236 549 L (.int 0 :: S) h := Rg rfl
set_option maxRecDepth 100000 in
theorem e236_549 {L : Lo} {S : List Value} {h : Hp} {i : Int32} {b : Nat} : Run 236 549 L (.int i :: .ref b :: S) h = (gaJ h b i).bind fun v => Run 236 550 L (.long v :: S) h := Rb rfl fun _ => rfl
set_option maxRecDepth 100000 in
theorem e236_550 {L : Lo} {S : List Value} {h : Hp} {x0 x1 x2 x3 x4 x5 x6 : Option Value} {v : Int32} : Run 236 550 (x0 :: x1 :: x2 :: x3 :: x4 :: x5 :: x6 :: some (.int v) :: L) S h = Run 236 552 (x0 :: x1 :: x2 :: x3 :: x4 :: x5 :: x6 :: some (.int v) :: L) (.int v :: S) h := Rg rfl
set_option maxRecDepth 100000 in
theorem e236_552 {L : Lo} {S : List Value} {h : Hp} {x : Int32} : Run 236 552 L (.int x :: S) h = Run 236 553 L (.long x.toInt64 :: S) h := Rg rfl
set_option maxRecDepth 100000 in
theorem e236_553 {L : Lo} {S : List Value} {h : Hp} {x z : Int64} : Run 236 553 L (.long z :: .long x :: S) h = Run 236 554 L (.int (lg_cmp x z) :: S) h := Rg rfl
set_option maxRecDepth 100000 in
theorem e236_554 {L : Lo} {S : List Value} {h : Hp} {x : Int32} : Run 236 554 L (.int x :: S) h = if x = 0 then Run 236 559 L S h else Run 236 557 L S h := Rbr (c := cnd .eq x 0 = true) (off := 5) rfl rfl cnd_eq
set_option maxRecDepth 100000 in
theorem e236_557 {L : Lo} {S : List Value} {h : Hp} : Run 236 557 L S h = Run 236 558 L (.int 0 :: S) h := Rg rfl
set_option maxRecDepth 100000 in
theorem e236_558 {L : Lo} {h : Hp} {x : Int32} (hx : narrow .boolean (.int x) = .int x) : Run 236 558 L [.int x] h = some (.inl (some (.int x)), h) := Rd (if_pos hx)
set_option maxRecDepth 100000 in
theorem e236_559 {L : Lo} {S : List Value} {h : Hp} : Run 236 559 L S h = Run 236 1812 L S h := Rg rfl
set_option maxRecDepth 100000 in
theorem e236_562 {L : Lo} {S : List Value} {h : Hp} {x0 : Option Value} {v : Nat} : Run 236 562 (x0 :: some (.ref v) :: L) S h = Run 236 563 (x0 :: some (.ref v) :: L) (.ref v :: S) h := Rg rfl
set_option maxRecDepth 100000 in
theorem e236_563 {L : Lo} {S : List Value} {h : Hp} {v : Nat} : Run 236 563 (some (.ref v) :: L) S h = Run 236 564 (some (.ref v) :: L) (.ref v :: S) h := Rg rfl
set_option maxRecDepth 100000 in
theorem e236_564 {L : Lo} {S : List Value} {h : Hp} {x0 x1 x2 x3 x4 : Option Value} {v : Int32} : Run 236 564 (x0 :: x1 :: x2 :: x3 :: x4 :: some (.int v) :: L) S h = Run 236 566 (x0 :: x1 :: x2 :: x3 :: x4 :: some (.int v) :: L) (.int v :: S) h := Rg rfl
set_option maxRecDepth 100000 in
theorem e236_566 {L : Lo} {S : List Value} {h : Hp} : Run 236 566 L S h = Run 236 567 L (.int 1 :: S) h := Rg rfl
set_option maxRecDepth 100000 in
theorem e236_567 {L : Lo} {S : List Value} {h : Hp} {x z : Int32} : Run 236 567 L (.int z :: .int x :: S) h = Run 236 568 L (.int (x + z) :: S) h := Rg rfl
set_option maxRecDepth 100000 in
theorem e236_568 {L : Lo} {S : List Value} {h : Hp} {i : Int32} {b : Nat} : Run 236 568 L (.int i :: .ref b :: S) h = (gaI h b i).bind fun v => Run 236 569 L (.int v :: S) h := Rb rfl fun _ => rfl
set_option maxRecDepth 100000 in
theorem e236_569 {L : Lo} {S : List Value} {h : Hp} {v : Nat} : Run 236 569 (some (.ref v) :: L) S h = Run 236 570 (some (.ref v) :: L) (.ref v :: S) h := Rg rfl
set_option maxRecDepth 100000 in
theorem e236_570 {L : Lo} {S : List Value} {h : Hp} {x0 x1 x2 x3 x4 : Option Value} {v : Int32} : Run 236 570 (x0 :: x1 :: x2 :: x3 :: x4 :: some (.int v) :: L) S h = Run 236 572 (x0 :: x1 :: x2 :: x3 :: x4 :: some (.int v) :: L) (.int v :: S) h := Rg rfl
set_option maxRecDepth 100000 in
theorem e236_572 {L : Lo} {S : List Value} {h : Hp} : Run 236 572 L S h = Run 236 573 L (.int 2 :: S) h := Rg rfl
set_option maxRecDepth 100000 in
theorem e236_573 {L : Lo} {S : List Value} {h : Hp} {x z : Int32} : Run 236 573 L (.int z :: .int x :: S) h = Run 236 574 L (.int (x + z) :: S) h := Rg rfl
set_option maxRecDepth 100000 in
theorem e236_574 {L : Lo} {S : List Value} {h : Hp} {i : Int32} {b : Nat} : Run 236 574 L (.int i :: .ref b :: S) h = (gaI h b i).bind fun v => Run 236 575 L (.int v :: S) h := Rb rfl fun _ => rfl
set_option maxRecDepth 100000 in
theorem e236_575 {L : Lo} {S : List Value} {h : Hp} {x0 x1 x2 : Option Value} {v : Nat} : Run 236 575 (x0 :: x1 :: x2 :: some (.ref v) :: L) S h = Run 236 576 (x0 :: x1 :: x2 :: some (.ref v) :: L) (.ref v :: S) h := Rg rfl
set_option maxRecDepth 100000 in
theorem e236_576 {L : Lo} {h : Hp} {a3 : Nat} {a2 : Int32} {a1 : Int32} {a0 : Nat} : Run 236 576 L [.ref a3, .int a2, .int a1, .ref a0] h = (Run 218 0 [some (.ref a0), some (.int a1), some (.int a2), some (.ref a3), none] [] h).bind fun o => aft 236 576 579 L [] o := Rc (c := 218) (As := [.ref a0, .int a1, .int a2, .ref a3]) (S' := []) (pc' := 579) rfl
set_option maxRecDepth 100000 in
theorem e236_579 {L : Lo} {S : List Value} {h : Hp} {x0 x1 x2 x3 x4 x5 : Option Value} {y : Option Value} {v : Int32} : Run 236 579 (x0 :: x1 :: x2 :: x3 :: x4 :: x5 :: y :: L) (.int v :: S) h = Run 236 581 (x0 :: x1 :: x2 :: x3 :: x4 :: ck x5 :: some (.int v) :: L) S h := Rg rfl
set_option maxRecDepth 100000 in
theorem e236_581 {L : Lo} {S : List Value} {h : Hp} {x0 x1 : Option Value} {v : Nat} : Run 236 581 (x0 :: x1 :: some (.ref v) :: L) S h = Run 236 582 (x0 :: x1 :: some (.ref v) :: L) (.ref v :: S) h := Rg rfl
set_option maxRecDepth 100000 in
theorem e236_582 {L : Lo} {S : List Value} {h : Hp} {v : Nat} : Run 236 582 (some (.ref v) :: L) S h = Run 236 583 (some (.ref v) :: L) (.ref v :: S) h := Rg rfl
set_option maxRecDepth 100000 in
theorem e236_583 {L : Lo} {S : List Value} {h : Hp} {x0 x1 x2 x3 x4 : Option Value} {v : Int32} : Run 236 583 (x0 :: x1 :: x2 :: x3 :: x4 :: some (.int v) :: L) S h = Run 236 585 (x0 :: x1 :: x2 :: x3 :: x4 :: some (.int v) :: L) (.int v :: S) h := Rg rfl
set_option maxRecDepth 100000 in
theorem e236_585 {L : Lo} {S : List Value} {h : Hp} : Run 236 585 L S h = Run 236 586 L (.int 1 :: S) h := Rg rfl
set_option maxRecDepth 100000 in
theorem e236_586 {L : Lo} {S : List Value} {h : Hp} {x z : Int32} : Run 236 586 L (.int z :: .int x :: S) h = Run 236 587 L (.int (x + z) :: S) h := Rg rfl
set_option maxRecDepth 100000 in
theorem e236_587 {L : Lo} {S : List Value} {h : Hp} {i : Int32} {b : Nat} : Run 236 587 L (.int i :: .ref b :: S) h = (gaI h b i).bind fun v => Run 236 588 L (.int v :: S) h := Rb rfl fun _ => rfl
set_option maxRecDepth 100000 in
theorem e236_588 {L : Lo} {S : List Value} {h : Hp} {v : Nat} : Run 236 588 (some (.ref v) :: L) S h = Run 236 589 (some (.ref v) :: L) (.ref v :: S) h := Rg rfl
set_option maxRecDepth 100000 in
theorem e236_589 {L : Lo} {S : List Value} {h : Hp} {x0 x1 x2 x3 x4 : Option Value} {v : Int32} : Run 236 589 (x0 :: x1 :: x2 :: x3 :: x4 :: some (.int v) :: L) S h = Run 236 591 (x0 :: x1 :: x2 :: x3 :: x4 :: some (.int v) :: L) (.int v :: S) h := Rg rfl
set_option maxRecDepth 100000 in
theorem e236_591 {L : Lo} {S : List Value} {h : Hp} : Run 236 591 L S h = Run 236 592 L (.int 2 :: S) h := Rg rfl
set_option maxRecDepth 100000 in
theorem e236_592 {L : Lo} {S : List Value} {h : Hp} {x z : Int32} : Run 236 592 L (.int z :: .int x :: S) h = Run 236 593 L (.int (x + z) :: S) h := Rg rfl
set_option maxRecDepth 100000 in
theorem e236_593 {L : Lo} {S : List Value} {h : Hp} {i : Int32} {b : Nat} : Run 236 593 L (.int i :: .ref b :: S) h = (gaI h b i).bind fun v => Run 236 594 L (.int v :: S) h := Rb rfl fun _ => rfl
set_option maxRecDepth 100000 in
theorem e236_594 {L : Lo} {h : Hp} {a2 : Int32} {a1 : Int32} {a0 : Nat} (hO : isO h a0 9 = true) : Run 236 594 L [.int a2, .int a1, .ref a0] h = (Run 154 0 [some (.ref a0), some (.int a1), some (.int a2)] [] h).bind fun o => aft 236 594 597 L [] o := Rcv (c := 154) (As := [.int a1, .int a2]) (S' := []) (pc' := 597) 9 rfl hO
set_option maxRecDepth 100000 in
theorem e236_597 {L : Lo} {S : List Value} {h : Hp} {x0 x1 x2 x3 x4 x5 x6 : Option Value} {y : Option Value} {v : Int32} : Run 236 597 (x0 :: x1 :: x2 :: x3 :: x4 :: x5 :: x6 :: y :: L) (.int v :: S) h = Run 236 599 (x0 :: x1 :: x2 :: x3 :: x4 :: x5 :: ck x6 :: some (.int v) :: L) S h := Rg rfl
set_option maxRecDepth 100000 in
theorem e236_599 {L : Lo} {S : List Value} {h : Hp} {x0 x1 : Option Value} {v : Nat} : Run 236 599 (x0 :: x1 :: some (.ref v) :: L) S h = Run 236 600 (x0 :: x1 :: some (.ref v) :: L) (.ref v :: S) h := Rg rfl
set_option maxRecDepth 100000 in
theorem e236_600 {L : Lo} {h : Hp} {a0 : Nat} (hO : isO h a0 9 = true) : Run 236 600 L [.ref a0] h = (Run 117 0 [some (.ref a0)] [] h).bind fun o => aft 236 600 603 L [] o := Rcv (c := 117) (As := []) (S' := []) (pc' := 603) 9 rfl hO
set_option maxRecDepth 100000 in
theorem e236_603 {L : Lo} {S : List Value} {h : Hp} {x0 x1 x2 x3 x4 x5 : Option Value} {v : Int32} : Run 236 603 (x0 :: x1 :: x2 :: x3 :: x4 :: x5 :: some (.int v) :: L) S h = Run 236 605 (x0 :: x1 :: x2 :: x3 :: x4 :: x5 :: some (.int v) :: L) (.int v :: S) h := Rg rfl
set_option maxRecDepth 100000 in
theorem e236_605 {L : Lo} {S : List Value} {h : Hp} {x z : Int32} : Run 236 605 L (.int z :: .int x :: S) h = if x = z then Run 236 610 L S h else Run 236 608 L S h := Rbr (c := cnd .eq x z = true) (off := 5) rfl rfl cnd_eq
set_option maxRecDepth 100000 in
theorem e236_608 {L : Lo} {S : List Value} {h : Hp} : Run 236 608 L S h = Run 236 609 L (.int 0 :: S) h := Rg rfl
set_option maxRecDepth 100000 in
theorem e236_609 {L : Lo} {h : Hp} {x : Int32} (hx : narrow .boolean (.int x) = .int x) : Run 236 609 L [.int x] h = some (.inl (some (.int x)), h) := Rd (if_pos hx)
set_option maxRecDepth 100000 in
theorem e236_610 {L : Lo} {S : List Value} {h : Hp} {x0 x1 x2 x3 x4 x5 : Option Value} {v : Int32} : Run 236 610 (x0 :: x1 :: x2 :: x3 :: x4 :: x5 :: some (.int v) :: L) S h = Run 236 612 (x0 :: x1 :: x2 :: x3 :: x4 :: x5 :: some (.int v) :: L) (.int v :: S) h := Rg rfl
set_option maxRecDepth 100000 in
theorem e236_612 {L : Lo} {S : List Value} {h : Hp} {x : Int32} : Run 236 612 L (.int x :: S) h = if x = 0 then Run 236 615 L S h else Run 236 627 L S h := RbrN (c := cnd .ne x 0 = true) (off := 15) rfl rfl cnd_ne
set_option maxRecDepth 100000 in
theorem e236_615 {L : Lo} {S : List Value} {h : Hp} {x0 x1 x2 : Option Value} {v : Nat} : Run 236 615 (x0 :: x1 :: x2 :: some (.ref v) :: L) S h = Run 236 616 (x0 :: x1 :: x2 :: some (.ref v) :: L) (.ref v :: S) h := Rg rfl
set_option maxRecDepth 100000 in
theorem e236_616 {L : Lo} {S : List Value} {h : Hp} : Run 236 616 L S h = Run 236 617 L (.int 0 :: S) h := Rg rfl
set_option maxRecDepth 100000 in
theorem e236_617 {L : Lo} {S : List Value} {h : Hp} {i : Int32} {b : Nat} : Run 236 617 L (.int i :: .ref b :: S) h = (gaJ h b i).bind fun v => Run 236 618 L (.long v :: S) h := Rb rfl fun _ => rfl
set_option maxRecDepth 100000 in
theorem e236_618 {L : Lo} {S : List Value} {h : Hp} {x0 x1 x2 x3 x4 x5 x6 : Option Value} {v : Int32} : Run 236 618 (x0 :: x1 :: x2 :: x3 :: x4 :: x5 :: x6 :: some (.int v) :: L) S h = Run 236 620 (x0 :: x1 :: x2 :: x3 :: x4 :: x5 :: x6 :: some (.int v) :: L) (.int v :: S) h := Rg rfl
set_option maxRecDepth 100000 in
theorem e236_620 {L : Lo} {S : List Value} {h : Hp} {x : Int32} : Run 236 620 L (.int x :: S) h = Run 236 621 L (.long x.toInt64 :: S) h := Rg rfl
set_option maxRecDepth 100000 in
theorem e236_621 {L : Lo} {S : List Value} {h : Hp} {x z : Int64} : Run 236 621 L (.long z :: .long x :: S) h = Run 236 622 L (.int (lg_cmp x z) :: S) h := Rg rfl
set_option maxRecDepth 100000 in
theorem e236_622 {L : Lo} {S : List Value} {h : Hp} {x : Int32} : Run 236 622 L (.int x :: S) h = if x = 0 then Run 236 627 L S h else Run 236 625 L S h := Rbr (c := cnd .eq x 0 = true) (off := 5) rfl rfl cnd_eq
set_option maxRecDepth 100000 in
theorem e236_625 {L : Lo} {S : List Value} {h : Hp} : Run 236 625 L S h = Run 236 626 L (.int 0 :: S) h := Rg rfl
set_option maxRecDepth 100000 in
theorem e236_626 {L : Lo} {h : Hp} {x : Int32} (hx : narrow .boolean (.int x) = .int x) : Run 236 626 L [.int x] h = some (.inl (some (.int x)), h) := Rd (if_pos hx)
set_option maxRecDepth 100000 in
theorem e236_627 {L : Lo} {S : List Value} {h : Hp} : Run 236 627 L S h = Run 236 1812 L S h := Rg rfl
set_option maxRecDepth 100000 in
theorem e236_630 {L : Lo} {S : List Value} {h : Hp} {x0 : Option Value} {v : Nat} : Run 236 630 (x0 :: some (.ref v) :: L) S h = Run 236 631 (x0 :: some (.ref v) :: L) (.ref v :: S) h := Rg rfl
set_option maxRecDepth 100000 in
theorem e236_631 {L : Lo} {S : List Value} {h : Hp} {v : Nat} : Run 236 631 (some (.ref v) :: L) S h = Run 236 632 (some (.ref v) :: L) (.ref v :: S) h := Rg rfl
set_option maxRecDepth 100000 in
theorem e236_632 {L : Lo} {S : List Value} {h : Hp} {x0 x1 x2 x3 x4 : Option Value} {v : Int32} : Run 236 632 (x0 :: x1 :: x2 :: x3 :: x4 :: some (.int v) :: L) S h = Run 236 634 (x0 :: x1 :: x2 :: x3 :: x4 :: some (.int v) :: L) (.int v :: S) h := Rg rfl
set_option maxRecDepth 100000 in
theorem e236_634 {L : Lo} {S : List Value} {h : Hp} : Run 236 634 L S h = Run 236 635 L (.int 1 :: S) h := Rg rfl
set_option maxRecDepth 100000 in
theorem e236_635 {L : Lo} {S : List Value} {h : Hp} {x z : Int32} : Run 236 635 L (.int z :: .int x :: S) h = Run 236 636 L (.int (x + z) :: S) h := Rg rfl
set_option maxRecDepth 100000 in
theorem e236_636 {L : Lo} {S : List Value} {h : Hp} {i : Int32} {b : Nat} : Run 236 636 L (.int i :: .ref b :: S) h = (gaI h b i).bind fun v => Run 236 637 L (.int v :: S) h := Rb rfl fun _ => rfl
set_option maxRecDepth 100000 in
theorem e236_637 {L : Lo} {S : List Value} {h : Hp} {x0 x1 x2 : Option Value} {v : Nat} : Run 236 637 (x0 :: x1 :: x2 :: some (.ref v) :: L) S h = Run 236 638 (x0 :: x1 :: x2 :: some (.ref v) :: L) (.ref v :: S) h := Rg rfl
set_option maxRecDepth 100000 in
theorem e236_638 {L : Lo} {h : Hp} {a2 : Nat} {a1 : Int32} {a0 : Nat} : Run 236 638 L [.ref a2, .int a1, .ref a0] h = (Run 219 0 [some (.ref a0), some (.int a1), some (.ref a2), none] [] h).bind fun o => aft 236 638 641 L [] o := Rc (c := 219) (As := [.ref a0, .int a1, .ref a2]) (S' := []) (pc' := 641) rfl
set_option maxRecDepth 100000 in
theorem e236_641 {L : Lo} {S : List Value} {h : Hp} {x0 x1 x2 x3 x4 x5 : Option Value} {y : Option Value} {v : Int32} : Run 236 641 (x0 :: x1 :: x2 :: x3 :: x4 :: x5 :: y :: L) (.int v :: S) h = Run 236 643 (x0 :: x1 :: x2 :: x3 :: x4 :: ck x5 :: some (.int v) :: L) S h := Rg rfl
set_option maxRecDepth 100000 in
theorem e236_643 {L : Lo} {S : List Value} {h : Hp} {x0 x1 : Option Value} {v : Nat} : Run 236 643 (x0 :: x1 :: some (.ref v) :: L) S h = Run 236 644 (x0 :: x1 :: some (.ref v) :: L) (.ref v :: S) h := Rg rfl
set_option maxRecDepth 100000 in
theorem e236_644 {L : Lo} {S : List Value} {h : Hp} {v : Nat} : Run 236 644 (some (.ref v) :: L) S h = Run 236 645 (some (.ref v) :: L) (.ref v :: S) h := Rg rfl
set_option maxRecDepth 100000 in
theorem e236_645 {L : Lo} {S : List Value} {h : Hp} {x0 x1 x2 x3 x4 : Option Value} {v : Int32} : Run 236 645 (x0 :: x1 :: x2 :: x3 :: x4 :: some (.int v) :: L) S h = Run 236 647 (x0 :: x1 :: x2 :: x3 :: x4 :: some (.int v) :: L) (.int v :: S) h := Rg rfl
set_option maxRecDepth 100000 in
theorem e236_647 {L : Lo} {S : List Value} {h : Hp} : Run 236 647 L S h = Run 236 648 L (.int 1 :: S) h := Rg rfl
set_option maxRecDepth 100000 in
theorem e236_648 {L : Lo} {S : List Value} {h : Hp} {x z : Int32} : Run 236 648 L (.int z :: .int x :: S) h = Run 236 649 L (.int (x + z) :: S) h := Rg rfl
set_option maxRecDepth 100000 in
theorem e236_649 {L : Lo} {S : List Value} {h : Hp} {i : Int32} {b : Nat} : Run 236 649 L (.int i :: .ref b :: S) h = (gaI h b i).bind fun v => Run 236 650 L (.int v :: S) h := Rb rfl fun _ => rfl
set_option maxRecDepth 100000 in
theorem e236_650 {L : Lo} {h : Hp} {a1 : Int32} {a0 : Nat} (hO : isO h a0 9 = true) : Run 236 650 L [.int a1, .ref a0] h = (Run 155 0 [some (.ref a0), some (.int a1)] [] h).bind fun o => aft 236 650 653 L [] o := Rcv (c := 155) (As := [.int a1]) (S' := []) (pc' := 653) 9 rfl hO
set_option maxRecDepth 100000 in
theorem e236_653 {L : Lo} {S : List Value} {h : Hp} {x0 x1 x2 x3 x4 x5 x6 : Option Value} {y : Option Value} {v : Int32} : Run 236 653 (x0 :: x1 :: x2 :: x3 :: x4 :: x5 :: x6 :: y :: L) (.int v :: S) h = Run 236 655 (x0 :: x1 :: x2 :: x3 :: x4 :: x5 :: ck x6 :: some (.int v) :: L) S h := Rg rfl
set_option maxRecDepth 100000 in
theorem e236_655 {L : Lo} {S : List Value} {h : Hp} {x0 x1 : Option Value} {v : Nat} : Run 236 655 (x0 :: x1 :: some (.ref v) :: L) S h = Run 236 656 (x0 :: x1 :: some (.ref v) :: L) (.ref v :: S) h := Rg rfl
set_option maxRecDepth 100000 in
theorem e236_656 {L : Lo} {h : Hp} {a0 : Nat} (hO : isO h a0 9 = true) : Run 236 656 L [.ref a0] h = (Run 117 0 [some (.ref a0)] [] h).bind fun o => aft 236 656 659 L [] o := Rcv (c := 117) (As := []) (S' := []) (pc' := 659) 9 rfl hO
set_option maxRecDepth 100000 in
theorem e236_659 {L : Lo} {S : List Value} {h : Hp} {x0 x1 x2 x3 x4 x5 : Option Value} {v : Int32} : Run 236 659 (x0 :: x1 :: x2 :: x3 :: x4 :: x5 :: some (.int v) :: L) S h = Run 236 661 (x0 :: x1 :: x2 :: x3 :: x4 :: x5 :: some (.int v) :: L) (.int v :: S) h := Rg rfl
set_option maxRecDepth 100000 in
theorem e236_661 {L : Lo} {S : List Value} {h : Hp} {x z : Int32} : Run 236 661 L (.int z :: .int x :: S) h = if x = z then Run 236 666 L S h else Run 236 664 L S h := Rbr (c := cnd .eq x z = true) (off := 5) rfl rfl cnd_eq
set_option maxRecDepth 100000 in
theorem e236_664 {L : Lo} {S : List Value} {h : Hp} : Run 236 664 L S h = Run 236 665 L (.int 0 :: S) h := Rg rfl
set_option maxRecDepth 100000 in
theorem e236_665 {L : Lo} {h : Hp} {x : Int32} (hx : narrow .boolean (.int x) = .int x) : Run 236 665 L [.int x] h = some (.inl (some (.int x)), h) := Rd (if_pos hx)
set_option maxRecDepth 100000 in
theorem e236_666 {L : Lo} {S : List Value} {h : Hp} {x0 x1 x2 x3 x4 x5 : Option Value} {v : Int32} : Run 236 666 (x0 :: x1 :: x2 :: x3 :: x4 :: x5 :: some (.int v) :: L) S h = Run 236 668 (x0 :: x1 :: x2 :: x3 :: x4 :: x5 :: some (.int v) :: L) (.int v :: S) h := Rg rfl
set_option maxRecDepth 100000 in
theorem e236_668 {L : Lo} {S : List Value} {h : Hp} {x : Int32} : Run 236 668 L (.int x :: S) h = if x = 0 then Run 236 671 L S h else Run 236 683 L S h := RbrN (c := cnd .ne x 0 = true) (off := 15) rfl rfl cnd_ne
set_option maxRecDepth 100000 in
theorem e236_671 {L : Lo} {S : List Value} {h : Hp} {x0 x1 x2 : Option Value} {v : Nat} : Run 236 671 (x0 :: x1 :: x2 :: some (.ref v) :: L) S h = Run 236 672 (x0 :: x1 :: x2 :: some (.ref v) :: L) (.ref v :: S) h := Rg rfl
set_option maxRecDepth 100000 in
theorem e236_672 {L : Lo} {S : List Value} {h : Hp} : Run 236 672 L S h = Run 236 673 L (.int 0 :: S) h := Rg rfl
set_option maxRecDepth 100000 in
theorem e236_673 {L : Lo} {S : List Value} {h : Hp} {i : Int32} {b : Nat} : Run 236 673 L (.int i :: .ref b :: S) h = (gaJ h b i).bind fun v => Run 236 674 L (.long v :: S) h := Rb rfl fun _ => rfl
set_option maxRecDepth 100000 in
theorem e236_674 {L : Lo} {S : List Value} {h : Hp} {x0 x1 x2 x3 x4 x5 x6 : Option Value} {v : Int32} : Run 236 674 (x0 :: x1 :: x2 :: x3 :: x4 :: x5 :: x6 :: some (.int v) :: L) S h = Run 236 676 (x0 :: x1 :: x2 :: x3 :: x4 :: x5 :: x6 :: some (.int v) :: L) (.int v :: S) h := Rg rfl
set_option maxRecDepth 100000 in
theorem e236_676 {L : Lo} {S : List Value} {h : Hp} {x : Int32} : Run 236 676 L (.int x :: S) h = Run 236 677 L (.long x.toInt64 :: S) h := Rg rfl
set_option maxRecDepth 100000 in
theorem e236_677 {L : Lo} {S : List Value} {h : Hp} {x z : Int64} : Run 236 677 L (.long z :: .long x :: S) h = Run 236 678 L (.int (lg_cmp x z) :: S) h := Rg rfl
set_option maxRecDepth 100000 in
theorem e236_678 {L : Lo} {S : List Value} {h : Hp} {x : Int32} : Run 236 678 L (.int x :: S) h = if x = 0 then Run 236 683 L S h else Run 236 681 L S h := Rbr (c := cnd .eq x 0 = true) (off := 5) rfl rfl cnd_eq
set_option maxRecDepth 100000 in
theorem e236_681 {L : Lo} {S : List Value} {h : Hp} : Run 236 681 L S h = Run 236 682 L (.int 0 :: S) h := Rg rfl
set_option maxRecDepth 100000 in
theorem e236_682 {L : Lo} {h : Hp} {x : Int32} (hx : narrow .boolean (.int x) = .int x) : Run 236 682 L [.int x] h = some (.inl (some (.int x)), h) := Rd (if_pos hx)
set_option maxRecDepth 100000 in
theorem e236_683 {L : Lo} {S : List Value} {h : Hp} : Run 236 683 L S h = Run 236 1812 L S h := Rg rfl
set_option maxRecDepth 100000 in
theorem e236_686 {L : Lo} {S : List Value} {h : Hp} {x0 : Option Value} {v : Nat} : Run 236 686 (x0 :: some (.ref v) :: L) S h = Run 236 687 (x0 :: some (.ref v) :: L) (.ref v :: S) h := Rg rfl
set_option maxRecDepth 100000 in
theorem e236_687 {L : Lo} {S : List Value} {h : Hp} {v : Nat} : Run 236 687 (some (.ref v) :: L) S h = Run 236 688 (some (.ref v) :: L) (.ref v :: S) h := Rg rfl
set_option maxRecDepth 100000 in
theorem e236_688 {L : Lo} {S : List Value} {h : Hp} {x0 x1 x2 x3 x4 : Option Value} {v : Int32} : Run 236 688 (x0 :: x1 :: x2 :: x3 :: x4 :: some (.int v) :: L) S h = Run 236 690 (x0 :: x1 :: x2 :: x3 :: x4 :: some (.int v) :: L) (.int v :: S) h := Rg rfl
set_option maxRecDepth 100000 in
theorem e236_690 {L : Lo} {S : List Value} {h : Hp} : Run 236 690 L S h = Run 236 691 L (.int 1 :: S) h := Rg rfl
set_option maxRecDepth 100000 in
theorem e236_691 {L : Lo} {S : List Value} {h : Hp} {x z : Int32} : Run 236 691 L (.int z :: .int x :: S) h = Run 236 692 L (.int (x + z) :: S) h := Rg rfl
set_option maxRecDepth 100000 in
theorem e236_692 {L : Lo} {S : List Value} {h : Hp} {i : Int32} {b : Nat} : Run 236 692 L (.int i :: .ref b :: S) h = (gaI h b i).bind fun v => Run 236 693 L (.int v :: S) h := Rb rfl fun _ => rfl
set_option maxRecDepth 100000 in
theorem e236_693 {L : Lo} {S : List Value} {h : Hp} {v : Nat} : Run 236 693 (some (.ref v) :: L) S h = Run 236 694 (some (.ref v) :: L) (.ref v :: S) h := Rg rfl
set_option maxRecDepth 100000 in
theorem e236_694 {L : Lo} {S : List Value} {h : Hp} {x0 x1 x2 x3 x4 : Option Value} {v : Int32} : Run 236 694 (x0 :: x1 :: x2 :: x3 :: x4 :: some (.int v) :: L) S h = Run 236 696 (x0 :: x1 :: x2 :: x3 :: x4 :: some (.int v) :: L) (.int v :: S) h := Rg rfl
set_option maxRecDepth 100000 in
theorem e236_696 {L : Lo} {S : List Value} {h : Hp} : Run 236 696 L S h = Run 236 697 L (.int 2 :: S) h := Rg rfl
set_option maxRecDepth 100000 in
theorem e236_697 {L : Lo} {S : List Value} {h : Hp} {x z : Int32} : Run 236 697 L (.int z :: .int x :: S) h = Run 236 698 L (.int (x + z) :: S) h := Rg rfl
set_option maxRecDepth 100000 in
theorem e236_698 {L : Lo} {S : List Value} {h : Hp} {i : Int32} {b : Nat} : Run 236 698 L (.int i :: .ref b :: S) h = (gaI h b i).bind fun v => Run 236 699 L (.int v :: S) h := Rb rfl fun _ => rfl
set_option maxRecDepth 100000 in
theorem e236_699 {L : Lo} {S : List Value} {h : Hp} {x0 x1 x2 : Option Value} {v : Nat} : Run 236 699 (x0 :: x1 :: x2 :: some (.ref v) :: L) S h = Run 236 700 (x0 :: x1 :: x2 :: some (.ref v) :: L) (.ref v :: S) h := Rg rfl
set_option maxRecDepth 100000 in
theorem e236_700 {L : Lo} {h : Hp} {a3 : Nat} {a2 : Int32} {a1 : Int32} {a0 : Nat} : Run 236 700 L [.ref a3, .int a2, .int a1, .ref a0] h = (Run 220 0 [some (.ref a0), some (.int a1), some (.int a2), some (.ref a3), none] [] h).bind fun o => aft 236 700 703 L [] o := Rc (c := 220) (As := [.ref a0, .int a1, .int a2, .ref a3]) (S' := []) (pc' := 703) rfl
set_option maxRecDepth 100000 in
theorem e236_703 {L : Lo} {S : List Value} {h : Hp} {x0 x1 x2 x3 x4 x5 : Option Value} {y : Option Value} {v : Int32} : Run 236 703 (x0 :: x1 :: x2 :: x3 :: x4 :: x5 :: y :: L) (.int v :: S) h = Run 236 705 (x0 :: x1 :: x2 :: x3 :: x4 :: ck x5 :: some (.int v) :: L) S h := Rg rfl
set_option maxRecDepth 100000 in
theorem e236_705 {L : Lo} {S : List Value} {h : Hp} {x0 x1 : Option Value} {v : Nat} : Run 236 705 (x0 :: x1 :: some (.ref v) :: L) S h = Run 236 706 (x0 :: x1 :: some (.ref v) :: L) (.ref v :: S) h := Rg rfl
set_option maxRecDepth 100000 in
theorem e236_706 {L : Lo} {S : List Value} {h : Hp} {v : Nat} : Run 236 706 (some (.ref v) :: L) S h = Run 236 707 (some (.ref v) :: L) (.ref v :: S) h := Rg rfl
set_option maxRecDepth 100000 in
theorem e236_707 {L : Lo} {S : List Value} {h : Hp} {x0 x1 x2 x3 x4 : Option Value} {v : Int32} : Run 236 707 (x0 :: x1 :: x2 :: x3 :: x4 :: some (.int v) :: L) S h = Run 236 709 (x0 :: x1 :: x2 :: x3 :: x4 :: some (.int v) :: L) (.int v :: S) h := Rg rfl
set_option maxRecDepth 100000 in
theorem e236_709 {L : Lo} {S : List Value} {h : Hp} : Run 236 709 L S h = Run 236 710 L (.int 1 :: S) h := Rg rfl
set_option maxRecDepth 100000 in
theorem e236_710 {L : Lo} {S : List Value} {h : Hp} {x z : Int32} : Run 236 710 L (.int z :: .int x :: S) h = Run 236 711 L (.int (x + z) :: S) h := Rg rfl
set_option maxRecDepth 100000 in
theorem e236_711 {L : Lo} {S : List Value} {h : Hp} {i : Int32} {b : Nat} : Run 236 711 L (.int i :: .ref b :: S) h = (gaI h b i).bind fun v => Run 236 712 L (.int v :: S) h := Rb rfl fun _ => rfl
set_option maxRecDepth 100000 in
theorem e236_712 {L : Lo} {S : List Value} {h : Hp} {v : Nat} : Run 236 712 (some (.ref v) :: L) S h = Run 236 713 (some (.ref v) :: L) (.ref v :: S) h := Rg rfl
set_option maxRecDepth 100000 in
theorem e236_713 {L : Lo} {S : List Value} {h : Hp} {x0 x1 x2 x3 x4 : Option Value} {v : Int32} : Run 236 713 (x0 :: x1 :: x2 :: x3 :: x4 :: some (.int v) :: L) S h = Run 236 715 (x0 :: x1 :: x2 :: x3 :: x4 :: some (.int v) :: L) (.int v :: S) h := Rg rfl
set_option maxRecDepth 100000 in
theorem e236_715 {L : Lo} {S : List Value} {h : Hp} : Run 236 715 L S h = Run 236 716 L (.int 2 :: S) h := Rg rfl
set_option maxRecDepth 100000 in
theorem e236_716 {L : Lo} {S : List Value} {h : Hp} {x z : Int32} : Run 236 716 L (.int z :: .int x :: S) h = Run 236 717 L (.int (x + z) :: S) h := Rg rfl
set_option maxRecDepth 100000 in
theorem e236_717 {L : Lo} {S : List Value} {h : Hp} {i : Int32} {b : Nat} : Run 236 717 L (.int i :: .ref b :: S) h = (gaI h b i).bind fun v => Run 236 718 L (.int v :: S) h := Rb rfl fun _ => rfl
set_option maxRecDepth 100000 in
theorem e236_718 {L : Lo} {h : Hp} {a2 : Int32} {a1 : Int32} {a0 : Nat} (hO : isO h a0 9 = true) : Run 236 718 L [.int a2, .int a1, .ref a0] h = (Run 156 0 [some (.ref a0), some (.int a1), some (.int a2)] [] h).bind fun o => aft 236 718 721 L [] o := Rcv (c := 156) (As := [.int a1, .int a2]) (S' := []) (pc' := 721) 9 rfl hO
set_option maxRecDepth 100000 in
theorem e236_721 {L : Lo} {S : List Value} {h : Hp} {x0 x1 x2 x3 x4 x5 x6 : Option Value} {y : Option Value} {v : Int32} : Run 236 721 (x0 :: x1 :: x2 :: x3 :: x4 :: x5 :: x6 :: y :: L) (.int v :: S) h = Run 236 723 (x0 :: x1 :: x2 :: x3 :: x4 :: x5 :: ck x6 :: some (.int v) :: L) S h := Rg rfl
set_option maxRecDepth 100000 in
theorem e236_723 {L : Lo} {S : List Value} {h : Hp} {x0 x1 : Option Value} {v : Nat} : Run 236 723 (x0 :: x1 :: some (.ref v) :: L) S h = Run 236 724 (x0 :: x1 :: some (.ref v) :: L) (.ref v :: S) h := Rg rfl
set_option maxRecDepth 100000 in
theorem e236_724 {L : Lo} {h : Hp} {a0 : Nat} (hO : isO h a0 9 = true) : Run 236 724 L [.ref a0] h = (Run 117 0 [some (.ref a0)] [] h).bind fun o => aft 236 724 727 L [] o := Rcv (c := 117) (As := []) (S' := []) (pc' := 727) 9 rfl hO
set_option maxRecDepth 100000 in
theorem e236_727 {L : Lo} {S : List Value} {h : Hp} {x0 x1 x2 x3 x4 x5 : Option Value} {v : Int32} : Run 236 727 (x0 :: x1 :: x2 :: x3 :: x4 :: x5 :: some (.int v) :: L) S h = Run 236 729 (x0 :: x1 :: x2 :: x3 :: x4 :: x5 :: some (.int v) :: L) (.int v :: S) h := Rg rfl
set_option maxRecDepth 100000 in
theorem e236_729 {L : Lo} {S : List Value} {h : Hp} {x z : Int32} : Run 236 729 L (.int z :: .int x :: S) h = if x = z then Run 236 734 L S h else Run 236 732 L S h := Rbr (c := cnd .eq x z = true) (off := 5) rfl rfl cnd_eq
set_option maxRecDepth 100000 in
theorem e236_732 {L : Lo} {S : List Value} {h : Hp} : Run 236 732 L S h = Run 236 733 L (.int 0 :: S) h := Rg rfl
set_option maxRecDepth 100000 in
theorem e236_733 {L : Lo} {h : Hp} {x : Int32} (hx : narrow .boolean (.int x) = .int x) : Run 236 733 L [.int x] h = some (.inl (some (.int x)), h) := Rd (if_pos hx)
set_option maxRecDepth 100000 in
theorem e236_734 {L : Lo} {S : List Value} {h : Hp} {x0 x1 x2 x3 x4 x5 : Option Value} {v : Int32} : Run 236 734 (x0 :: x1 :: x2 :: x3 :: x4 :: x5 :: some (.int v) :: L) S h = Run 236 736 (x0 :: x1 :: x2 :: x3 :: x4 :: x5 :: some (.int v) :: L) (.int v :: S) h := Rg rfl
set_option maxRecDepth 100000 in
theorem e236_736 {L : Lo} {S : List Value} {h : Hp} {x : Int32} : Run 236 736 L (.int x :: S) h = if x = 0 then Run 236 739 L S h else Run 236 751 L S h := RbrN (c := cnd .ne x 0 = true) (off := 15) rfl rfl cnd_ne
set_option maxRecDepth 100000 in
theorem e236_739 {L : Lo} {S : List Value} {h : Hp} {x0 x1 x2 : Option Value} {v : Nat} : Run 236 739 (x0 :: x1 :: x2 :: some (.ref v) :: L) S h = Run 236 740 (x0 :: x1 :: x2 :: some (.ref v) :: L) (.ref v :: S) h := Rg rfl
set_option maxRecDepth 100000 in
theorem e236_740 {L : Lo} {S : List Value} {h : Hp} : Run 236 740 L S h = Run 236 741 L (.int 0 :: S) h := Rg rfl
set_option maxRecDepth 100000 in
theorem e236_741 {L : Lo} {S : List Value} {h : Hp} {i : Int32} {b : Nat} : Run 236 741 L (.int i :: .ref b :: S) h = (gaJ h b i).bind fun v => Run 236 742 L (.long v :: S) h := Rb rfl fun _ => rfl
set_option maxRecDepth 100000 in
theorem e236_742 {L : Lo} {S : List Value} {h : Hp} {x0 x1 x2 x3 x4 x5 x6 : Option Value} {v : Int32} : Run 236 742 (x0 :: x1 :: x2 :: x3 :: x4 :: x5 :: x6 :: some (.int v) :: L) S h = Run 236 744 (x0 :: x1 :: x2 :: x3 :: x4 :: x5 :: x6 :: some (.int v) :: L) (.int v :: S) h := Rg rfl
set_option maxRecDepth 100000 in
theorem e236_744 {L : Lo} {S : List Value} {h : Hp} {x : Int32} : Run 236 744 L (.int x :: S) h = Run 236 745 L (.long x.toInt64 :: S) h := Rg rfl
set_option maxRecDepth 100000 in
theorem e236_745 {L : Lo} {S : List Value} {h : Hp} {x z : Int64} : Run 236 745 L (.long z :: .long x :: S) h = Run 236 746 L (.int (lg_cmp x z) :: S) h := Rg rfl
set_option maxRecDepth 100000 in
theorem e236_746 {L : Lo} {S : List Value} {h : Hp} {x : Int32} : Run 236 746 L (.int x :: S) h = if x = 0 then Run 236 751 L S h else Run 236 749 L S h := Rbr (c := cnd .eq x 0 = true) (off := 5) rfl rfl cnd_eq
set_option maxRecDepth 100000 in
theorem e236_749 {L : Lo} {S : List Value} {h : Hp} : Run 236 749 L S h = Run 236 750 L (.int 0 :: S) h := Rg rfl
set_option maxRecDepth 100000 in
theorem e236_750 {L : Lo} {h : Hp} {x : Int32} (hx : narrow .boolean (.int x) = .int x) : Run 236 750 L [.int x] h = some (.inl (some (.int x)), h) := Rd (if_pos hx)
set_option maxRecDepth 100000 in
theorem e236_751 {L : Lo} {S : List Value} {h : Hp} : Run 236 751 L S h = Run 236 1812 L S h := Rg rfl
set_option maxRecDepth 100000 in
theorem e236_754 {L : Lo} {S : List Value} {h : Hp} {x0 : Option Value} {v : Nat} : Run 236 754 (x0 :: some (.ref v) :: L) S h = Run 236 755 (x0 :: some (.ref v) :: L) (.ref v :: S) h := Rg rfl
set_option maxRecDepth 100000 in
theorem e236_755 {L : Lo} {S : List Value} {h : Hp} {v : Nat} : Run 236 755 (some (.ref v) :: L) S h = Run 236 756 (some (.ref v) :: L) (.ref v :: S) h := Rg rfl
set_option maxRecDepth 100000 in
theorem e236_756 {L : Lo} {S : List Value} {h : Hp} {x0 x1 x2 x3 x4 : Option Value} {v : Int32} : Run 236 756 (x0 :: x1 :: x2 :: x3 :: x4 :: some (.int v) :: L) S h = Run 236 758 (x0 :: x1 :: x2 :: x3 :: x4 :: some (.int v) :: L) (.int v :: S) h := Rg rfl
set_option maxRecDepth 100000 in
theorem e236_758 {L : Lo} {S : List Value} {h : Hp} : Run 236 758 L S h = Run 236 759 L (.int 1 :: S) h := Rg rfl
set_option maxRecDepth 100000 in
theorem e236_759 {L : Lo} {S : List Value} {h : Hp} {x z : Int32} : Run 236 759 L (.int z :: .int x :: S) h = Run 236 760 L (.int (x + z) :: S) h := Rg rfl
set_option maxRecDepth 100000 in
theorem e236_760 {L : Lo} {S : List Value} {h : Hp} {i : Int32} {b : Nat} : Run 236 760 L (.int i :: .ref b :: S) h = (gaI h b i).bind fun v => Run 236 761 L (.int v :: S) h := Rb rfl fun _ => rfl
set_option maxRecDepth 100000 in
theorem e236_761 {L : Lo} {S : List Value} {h : Hp} {v : Nat} : Run 236 761 (some (.ref v) :: L) S h = Run 236 762 (some (.ref v) :: L) (.ref v :: S) h := Rg rfl
set_option maxRecDepth 100000 in
theorem e236_762 {L : Lo} {S : List Value} {h : Hp} {x0 x1 x2 x3 x4 : Option Value} {v : Int32} : Run 236 762 (x0 :: x1 :: x2 :: x3 :: x4 :: some (.int v) :: L) S h = Run 236 764 (x0 :: x1 :: x2 :: x3 :: x4 :: some (.int v) :: L) (.int v :: S) h := Rg rfl
set_option maxRecDepth 100000 in
theorem e236_764 {L : Lo} {S : List Value} {h : Hp} : Run 236 764 L S h = Run 236 765 L (.int 2 :: S) h := Rg rfl
set_option maxRecDepth 100000 in
theorem e236_765 {L : Lo} {S : List Value} {h : Hp} {x z : Int32} : Run 236 765 L (.int z :: .int x :: S) h = Run 236 766 L (.int (x + z) :: S) h := Rg rfl
set_option maxRecDepth 100000 in
theorem e236_766 {L : Lo} {S : List Value} {h : Hp} {i : Int32} {b : Nat} : Run 236 766 L (.int i :: .ref b :: S) h = (gaI h b i).bind fun v => Run 236 767 L (.int v :: S) h := Rb rfl fun _ => rfl
set_option maxRecDepth 100000 in
theorem e236_767 {L : Lo} {S : List Value} {h : Hp} {x0 x1 x2 : Option Value} {v : Nat} : Run 236 767 (x0 :: x1 :: x2 :: some (.ref v) :: L) S h = Run 236 768 (x0 :: x1 :: x2 :: some (.ref v) :: L) (.ref v :: S) h := Rg rfl
set_option maxRecDepth 100000 in
theorem e236_768 {L : Lo} {h : Hp} {a3 : Nat} {a2 : Int32} {a1 : Int32} {a0 : Nat} : Run 236 768 L [.ref a3, .int a2, .int a1, .ref a0] h = (Run 221 0 [some (.ref a0), some (.int a1), some (.int a2), some (.ref a3), none] [] h).bind fun o => aft 236 768 771 L [] o := Rc (c := 221) (As := [.ref a0, .int a1, .int a2, .ref a3]) (S' := []) (pc' := 771) rfl
set_option maxRecDepth 100000 in
theorem e236_771 {L : Lo} {S : List Value} {h : Hp} {x0 x1 x2 x3 x4 x5 : Option Value} {y : Option Value} {v : Int32} : Run 236 771 (x0 :: x1 :: x2 :: x3 :: x4 :: x5 :: y :: L) (.int v :: S) h = Run 236 773 (x0 :: x1 :: x2 :: x3 :: x4 :: ck x5 :: some (.int v) :: L) S h := Rg rfl
set_option maxRecDepth 100000 in
theorem e236_773 {L : Lo} {S : List Value} {h : Hp} {x0 x1 : Option Value} {v : Nat} : Run 236 773 (x0 :: x1 :: some (.ref v) :: L) S h = Run 236 774 (x0 :: x1 :: some (.ref v) :: L) (.ref v :: S) h := Rg rfl
set_option maxRecDepth 100000 in
theorem e236_774 {L : Lo} {S : List Value} {h : Hp} {v : Nat} : Run 236 774 (some (.ref v) :: L) S h = Run 236 775 (some (.ref v) :: L) (.ref v :: S) h := Rg rfl
set_option maxRecDepth 100000 in
theorem e236_775 {L : Lo} {S : List Value} {h : Hp} {x0 x1 x2 x3 x4 : Option Value} {v : Int32} : Run 236 775 (x0 :: x1 :: x2 :: x3 :: x4 :: some (.int v) :: L) S h = Run 236 777 (x0 :: x1 :: x2 :: x3 :: x4 :: some (.int v) :: L) (.int v :: S) h := Rg rfl
set_option maxRecDepth 100000 in
theorem e236_777 {L : Lo} {S : List Value} {h : Hp} : Run 236 777 L S h = Run 236 778 L (.int 1 :: S) h := Rg rfl
set_option maxRecDepth 100000 in
theorem e236_778 {L : Lo} {S : List Value} {h : Hp} {x z : Int32} : Run 236 778 L (.int z :: .int x :: S) h = Run 236 779 L (.int (x + z) :: S) h := Rg rfl
set_option maxRecDepth 100000 in
theorem e236_779 {L : Lo} {S : List Value} {h : Hp} {i : Int32} {b : Nat} : Run 236 779 L (.int i :: .ref b :: S) h = (gaI h b i).bind fun v => Run 236 780 L (.int v :: S) h := Rb rfl fun _ => rfl
set_option maxRecDepth 100000 in
theorem e236_780 {L : Lo} {S : List Value} {h : Hp} {v : Nat} : Run 236 780 (some (.ref v) :: L) S h = Run 236 781 (some (.ref v) :: L) (.ref v :: S) h := Rg rfl
set_option maxRecDepth 100000 in
theorem e236_781 {L : Lo} {S : List Value} {h : Hp} {x0 x1 x2 x3 x4 : Option Value} {v : Int32} : Run 236 781 (x0 :: x1 :: x2 :: x3 :: x4 :: some (.int v) :: L) S h = Run 236 783 (x0 :: x1 :: x2 :: x3 :: x4 :: some (.int v) :: L) (.int v :: S) h := Rg rfl
set_option maxRecDepth 100000 in
theorem e236_783 {L : Lo} {S : List Value} {h : Hp} : Run 236 783 L S h = Run 236 784 L (.int 2 :: S) h := Rg rfl
set_option maxRecDepth 100000 in
theorem e236_784 {L : Lo} {S : List Value} {h : Hp} {x z : Int32} : Run 236 784 L (.int z :: .int x :: S) h = Run 236 785 L (.int (x + z) :: S) h := Rg rfl
set_option maxRecDepth 100000 in
theorem e236_785 {L : Lo} {S : List Value} {h : Hp} {i : Int32} {b : Nat} : Run 236 785 L (.int i :: .ref b :: S) h = (gaI h b i).bind fun v => Run 236 786 L (.int v :: S) h := Rb rfl fun _ => rfl
set_option maxRecDepth 100000 in
theorem e236_786 {L : Lo} {h : Hp} {a2 : Int32} {a1 : Int32} {a0 : Nat} (hO : isO h a0 9 = true) : Run 236 786 L [.int a2, .int a1, .ref a0] h = (Run 157 0 [some (.ref a0), some (.int a1), some (.int a2)] [] h).bind fun o => aft 236 786 789 L [] o := Rcv (c := 157) (As := [.int a1, .int a2]) (S' := []) (pc' := 789) 9 rfl hO
set_option maxRecDepth 100000 in
theorem e236_789 {L : Lo} {S : List Value} {h : Hp} {x0 x1 x2 x3 x4 x5 x6 : Option Value} {y : Option Value} {v : Int32} : Run 236 789 (x0 :: x1 :: x2 :: x3 :: x4 :: x5 :: x6 :: y :: L) (.int v :: S) h = Run 236 791 (x0 :: x1 :: x2 :: x3 :: x4 :: x5 :: ck x6 :: some (.int v) :: L) S h := Rg rfl
set_option maxRecDepth 100000 in
theorem e236_791 {L : Lo} {S : List Value} {h : Hp} {x0 x1 : Option Value} {v : Nat} : Run 236 791 (x0 :: x1 :: some (.ref v) :: L) S h = Run 236 792 (x0 :: x1 :: some (.ref v) :: L) (.ref v :: S) h := Rg rfl
set_option maxRecDepth 100000 in
theorem e236_792 {L : Lo} {h : Hp} {a0 : Nat} (hO : isO h a0 9 = true) : Run 236 792 L [.ref a0] h = (Run 117 0 [some (.ref a0)] [] h).bind fun o => aft 236 792 795 L [] o := Rcv (c := 117) (As := []) (S' := []) (pc' := 795) 9 rfl hO
set_option maxRecDepth 100000 in
theorem e236_795 {L : Lo} {S : List Value} {h : Hp} {x0 x1 x2 x3 x4 x5 : Option Value} {v : Int32} : Run 236 795 (x0 :: x1 :: x2 :: x3 :: x4 :: x5 :: some (.int v) :: L) S h = Run 236 797 (x0 :: x1 :: x2 :: x3 :: x4 :: x5 :: some (.int v) :: L) (.int v :: S) h := Rg rfl
set_option maxRecDepth 100000 in
theorem e236_797 {L : Lo} {S : List Value} {h : Hp} {x z : Int32} : Run 236 797 L (.int z :: .int x :: S) h = if x = z then Run 236 802 L S h else Run 236 800 L S h := Rbr (c := cnd .eq x z = true) (off := 5) rfl rfl cnd_eq
set_option maxRecDepth 100000 in
theorem e236_800 {L : Lo} {S : List Value} {h : Hp} : Run 236 800 L S h = Run 236 801 L (.int 0 :: S) h := Rg rfl
set_option maxRecDepth 100000 in
theorem e236_801 {L : Lo} {h : Hp} {x : Int32} (hx : narrow .boolean (.int x) = .int x) : Run 236 801 L [.int x] h = some (.inl (some (.int x)), h) := Rd (if_pos hx)
set_option maxRecDepth 100000 in
theorem e236_802 {L : Lo} {S : List Value} {h : Hp} {x0 x1 x2 x3 x4 x5 : Option Value} {v : Int32} : Run 236 802 (x0 :: x1 :: x2 :: x3 :: x4 :: x5 :: some (.int v) :: L) S h = Run 236 804 (x0 :: x1 :: x2 :: x3 :: x4 :: x5 :: some (.int v) :: L) (.int v :: S) h := Rg rfl
set_option maxRecDepth 100000 in
theorem e236_804 {L : Lo} {S : List Value} {h : Hp} {x : Int32} : Run 236 804 L (.int x :: S) h = if x = 0 then Run 236 807 L S h else Run 236 819 L S h := RbrN (c := cnd .ne x 0 = true) (off := 15) rfl rfl cnd_ne
set_option maxRecDepth 100000 in
theorem e236_807 {L : Lo} {S : List Value} {h : Hp} {x0 x1 x2 : Option Value} {v : Nat} : Run 236 807 (x0 :: x1 :: x2 :: some (.ref v) :: L) S h = Run 236 808 (x0 :: x1 :: x2 :: some (.ref v) :: L) (.ref v :: S) h := Rg rfl
set_option maxRecDepth 100000 in
theorem e236_808 {L : Lo} {S : List Value} {h : Hp} : Run 236 808 L S h = Run 236 809 L (.int 0 :: S) h := Rg rfl
set_option maxRecDepth 100000 in
theorem e236_809 {L : Lo} {S : List Value} {h : Hp} {i : Int32} {b : Nat} : Run 236 809 L (.int i :: .ref b :: S) h = (gaJ h b i).bind fun v => Run 236 810 L (.long v :: S) h := Rb rfl fun _ => rfl
set_option maxRecDepth 100000 in
theorem e236_810 {L : Lo} {S : List Value} {h : Hp} {x0 x1 x2 x3 x4 x5 x6 : Option Value} {v : Int32} : Run 236 810 (x0 :: x1 :: x2 :: x3 :: x4 :: x5 :: x6 :: some (.int v) :: L) S h = Run 236 812 (x0 :: x1 :: x2 :: x3 :: x4 :: x5 :: x6 :: some (.int v) :: L) (.int v :: S) h := Rg rfl
set_option maxRecDepth 100000 in
theorem e236_812 {L : Lo} {S : List Value} {h : Hp} {x : Int32} : Run 236 812 L (.int x :: S) h = Run 236 813 L (.long x.toInt64 :: S) h := Rg rfl
set_option maxRecDepth 100000 in
theorem e236_813 {L : Lo} {S : List Value} {h : Hp} {x z : Int64} : Run 236 813 L (.long z :: .long x :: S) h = Run 236 814 L (.int (lg_cmp x z) :: S) h := Rg rfl
set_option maxRecDepth 100000 in
theorem e236_814 {L : Lo} {S : List Value} {h : Hp} {x : Int32} : Run 236 814 L (.int x :: S) h = if x = 0 then Run 236 819 L S h else Run 236 817 L S h := Rbr (c := cnd .eq x 0 = true) (off := 5) rfl rfl cnd_eq
set_option maxRecDepth 100000 in
theorem e236_817 {L : Lo} {S : List Value} {h : Hp} : Run 236 817 L S h = Run 236 818 L (.int 0 :: S) h := Rg rfl
set_option maxRecDepth 100000 in
theorem e236_818 {L : Lo} {h : Hp} {x : Int32} (hx : narrow .boolean (.int x) = .int x) : Run 236 818 L [.int x] h = some (.inl (some (.int x)), h) := Rd (if_pos hx)
set_option maxRecDepth 100000 in
theorem e236_819 {L : Lo} {S : List Value} {h : Hp} : Run 236 819 L S h = Run 236 1812 L S h := Rg rfl
set_option maxRecDepth 100000 in
theorem e236_822 {L : Lo} {S : List Value} {h : Hp} {x0 : Option Value} {v : Nat} : Run 236 822 (x0 :: some (.ref v) :: L) S h = Run 236 823 (x0 :: some (.ref v) :: L) (.ref v :: S) h := Rg rfl
set_option maxRecDepth 100000 in
theorem e236_823 {L : Lo} {S : List Value} {h : Hp} {v : Nat} : Run 236 823 (some (.ref v) :: L) S h = Run 236 824 (some (.ref v) :: L) (.ref v :: S) h := Rg rfl
set_option maxRecDepth 100000 in
theorem e236_824 {L : Lo} {S : List Value} {h : Hp} {x0 x1 x2 x3 x4 : Option Value} {v : Int32} : Run 236 824 (x0 :: x1 :: x2 :: x3 :: x4 :: some (.int v) :: L) S h = Run 236 826 (x0 :: x1 :: x2 :: x3 :: x4 :: some (.int v) :: L) (.int v :: S) h := Rg rfl
set_option maxRecDepth 100000 in
theorem e236_826 {L : Lo} {S : List Value} {h : Hp} : Run 236 826 L S h = Run 236 827 L (.int 1 :: S) h := Rg rfl
set_option maxRecDepth 100000 in
theorem e236_827 {L : Lo} {S : List Value} {h : Hp} {x z : Int32} : Run 236 827 L (.int z :: .int x :: S) h = Run 236 828 L (.int (x + z) :: S) h := Rg rfl
set_option maxRecDepth 100000 in
theorem e236_828 {L : Lo} {S : List Value} {h : Hp} {i : Int32} {b : Nat} : Run 236 828 L (.int i :: .ref b :: S) h = (gaI h b i).bind fun v => Run 236 829 L (.int v :: S) h := Rb rfl fun _ => rfl
set_option maxRecDepth 100000 in
theorem e236_829 {L : Lo} {S : List Value} {h : Hp} {x0 x1 x2 : Option Value} {v : Nat} : Run 236 829 (x0 :: x1 :: x2 :: some (.ref v) :: L) S h = Run 236 830 (x0 :: x1 :: x2 :: some (.ref v) :: L) (.ref v :: S) h := Rg rfl
set_option maxRecDepth 100000 in
theorem e236_830 {L : Lo} {h : Hp} {a2 : Nat} {a1 : Int32} {a0 : Nat} : Run 236 830 L [.ref a2, .int a1, .ref a0] h = (Run 222 0 [some (.ref a0), some (.int a1), some (.ref a2), none] [] h).bind fun o => aft 236 830 833 L [] o := Rc (c := 222) (As := [.ref a0, .int a1, .ref a2]) (S' := []) (pc' := 833) rfl
set_option maxRecDepth 100000 in
theorem e236_833 {L : Lo} {S : List Value} {h : Hp} {x0 x1 x2 x3 x4 x5 : Option Value} {y : Option Value} {v : Int32} : Run 236 833 (x0 :: x1 :: x2 :: x3 :: x4 :: x5 :: y :: L) (.int v :: S) h = Run 236 835 (x0 :: x1 :: x2 :: x3 :: x4 :: ck x5 :: some (.int v) :: L) S h := Rg rfl
set_option maxRecDepth 100000 in
theorem e236_835 {L : Lo} {S : List Value} {h : Hp} {x0 x1 : Option Value} {v : Nat} : Run 236 835 (x0 :: x1 :: some (.ref v) :: L) S h = Run 236 836 (x0 :: x1 :: some (.ref v) :: L) (.ref v :: S) h := Rg rfl
set_option maxRecDepth 100000 in
theorem e236_836 {L : Lo} {S : List Value} {h : Hp} {v : Nat} : Run 236 836 (some (.ref v) :: L) S h = Run 236 837 (some (.ref v) :: L) (.ref v :: S) h := Rg rfl
set_option maxRecDepth 100000 in
theorem e236_837 {L : Lo} {S : List Value} {h : Hp} {x0 x1 x2 x3 x4 : Option Value} {v : Int32} : Run 236 837 (x0 :: x1 :: x2 :: x3 :: x4 :: some (.int v) :: L) S h = Run 236 839 (x0 :: x1 :: x2 :: x3 :: x4 :: some (.int v) :: L) (.int v :: S) h := Rg rfl
set_option maxRecDepth 100000 in
theorem e236_839 {L : Lo} {S : List Value} {h : Hp} : Run 236 839 L S h = Run 236 840 L (.int 1 :: S) h := Rg rfl
set_option maxRecDepth 100000 in
theorem e236_840 {L : Lo} {S : List Value} {h : Hp} {x z : Int32} : Run 236 840 L (.int z :: .int x :: S) h = Run 236 841 L (.int (x + z) :: S) h := Rg rfl
set_option maxRecDepth 100000 in
theorem e236_841 {L : Lo} {S : List Value} {h : Hp} {i : Int32} {b : Nat} : Run 236 841 L (.int i :: .ref b :: S) h = (gaI h b i).bind fun v => Run 236 842 L (.int v :: S) h := Rb rfl fun _ => rfl
set_option maxRecDepth 100000 in
theorem e236_842 {L : Lo} {h : Hp} {a1 : Int32} {a0 : Nat} (hO : isO h a0 9 = true) : Run 236 842 L [.int a1, .ref a0] h = (Run 161 0 [some (.ref a0), some (.int a1)] [] h).bind fun o => aft 236 842 845 L [] o := Rcv (c := 161) (As := [.int a1]) (S' := []) (pc' := 845) 9 rfl hO
set_option maxRecDepth 100000 in
theorem e236_845 {L : Lo} {S : List Value} {h : Hp} {x0 x1 x2 x3 x4 x5 x6 : Option Value} {y : Option Value} {v : Int32} : Run 236 845 (x0 :: x1 :: x2 :: x3 :: x4 :: x5 :: x6 :: y :: L) (.int v :: S) h = Run 236 847 (x0 :: x1 :: x2 :: x3 :: x4 :: x5 :: ck x6 :: some (.int v) :: L) S h := Rg rfl
set_option maxRecDepth 100000 in
theorem e236_847 {L : Lo} {S : List Value} {h : Hp} {x0 x1 : Option Value} {v : Nat} : Run 236 847 (x0 :: x1 :: some (.ref v) :: L) S h = Run 236 848 (x0 :: x1 :: some (.ref v) :: L) (.ref v :: S) h := Rg rfl
set_option maxRecDepth 100000 in
theorem e236_848 {L : Lo} {h : Hp} {a0 : Nat} (hO : isO h a0 9 = true) : Run 236 848 L [.ref a0] h = (Run 117 0 [some (.ref a0)] [] h).bind fun o => aft 236 848 851 L [] o := Rcv (c := 117) (As := []) (S' := []) (pc' := 851) 9 rfl hO
set_option maxRecDepth 100000 in
theorem e236_851 {L : Lo} {S : List Value} {h : Hp} {x0 x1 x2 x3 x4 x5 : Option Value} {v : Int32} : Run 236 851 (x0 :: x1 :: x2 :: x3 :: x4 :: x5 :: some (.int v) :: L) S h = Run 236 853 (x0 :: x1 :: x2 :: x3 :: x4 :: x5 :: some (.int v) :: L) (.int v :: S) h := Rg rfl
set_option maxRecDepth 100000 in
theorem e236_853 {L : Lo} {S : List Value} {h : Hp} {x z : Int32} : Run 236 853 L (.int z :: .int x :: S) h = if x = z then Run 236 858 L S h else Run 236 856 L S h := Rbr (c := cnd .eq x z = true) (off := 5) rfl rfl cnd_eq
set_option maxRecDepth 100000 in
theorem e236_856 {L : Lo} {S : List Value} {h : Hp} : Run 236 856 L S h = Run 236 857 L (.int 0 :: S) h := Rg rfl
set_option maxRecDepth 100000 in
theorem e236_857 {L : Lo} {h : Hp} {x : Int32} (hx : narrow .boolean (.int x) = .int x) : Run 236 857 L [.int x] h = some (.inl (some (.int x)), h) := Rd (if_pos hx)
set_option maxRecDepth 100000 in
theorem e236_858 {L : Lo} {S : List Value} {h : Hp} {x0 x1 x2 x3 x4 x5 : Option Value} {v : Int32} : Run 236 858 (x0 :: x1 :: x2 :: x3 :: x4 :: x5 :: some (.int v) :: L) S h = Run 236 860 (x0 :: x1 :: x2 :: x3 :: x4 :: x5 :: some (.int v) :: L) (.int v :: S) h := Rg rfl
set_option maxRecDepth 100000 in
theorem e236_860 {L : Lo} {S : List Value} {h : Hp} {x : Int32} : Run 236 860 L (.int x :: S) h = if x = 0 then Run 236 863 L S h else Run 236 875 L S h := RbrN (c := cnd .ne x 0 = true) (off := 15) rfl rfl cnd_ne
set_option maxRecDepth 100000 in
theorem e236_863 {L : Lo} {S : List Value} {h : Hp} {x0 x1 x2 : Option Value} {v : Nat} : Run 236 863 (x0 :: x1 :: x2 :: some (.ref v) :: L) S h = Run 236 864 (x0 :: x1 :: x2 :: some (.ref v) :: L) (.ref v :: S) h := Rg rfl
set_option maxRecDepth 100000 in
theorem e236_864 {L : Lo} {S : List Value} {h : Hp} : Run 236 864 L S h = Run 236 865 L (.int 0 :: S) h := Rg rfl
set_option maxRecDepth 100000 in
theorem e236_865 {L : Lo} {S : List Value} {h : Hp} {i : Int32} {b : Nat} : Run 236 865 L (.int i :: .ref b :: S) h = (gaJ h b i).bind fun v => Run 236 866 L (.long v :: S) h := Rb rfl fun _ => rfl
set_option maxRecDepth 100000 in
theorem e236_866 {L : Lo} {S : List Value} {h : Hp} {x0 x1 x2 x3 x4 x5 x6 : Option Value} {v : Int32} : Run 236 866 (x0 :: x1 :: x2 :: x3 :: x4 :: x5 :: x6 :: some (.int v) :: L) S h = Run 236 868 (x0 :: x1 :: x2 :: x3 :: x4 :: x5 :: x6 :: some (.int v) :: L) (.int v :: S) h := Rg rfl
set_option maxRecDepth 100000 in
theorem e236_868 {L : Lo} {S : List Value} {h : Hp} {x : Int32} : Run 236 868 L (.int x :: S) h = Run 236 869 L (.long x.toInt64 :: S) h := Rg rfl
set_option maxRecDepth 100000 in
theorem e236_869 {L : Lo} {S : List Value} {h : Hp} {x z : Int64} : Run 236 869 L (.long z :: .long x :: S) h = Run 236 870 L (.int (lg_cmp x z) :: S) h := Rg rfl
set_option maxRecDepth 100000 in
theorem e236_870 {L : Lo} {S : List Value} {h : Hp} {x : Int32} : Run 236 870 L (.int x :: S) h = if x = 0 then Run 236 875 L S h else Run 236 873 L S h := Rbr (c := cnd .eq x 0 = true) (off := 5) rfl rfl cnd_eq
set_option maxRecDepth 100000 in
theorem e236_873 {L : Lo} {S : List Value} {h : Hp} : Run 236 873 L S h = Run 236 874 L (.int 0 :: S) h := Rg rfl
set_option maxRecDepth 100000 in
theorem e236_874 {L : Lo} {h : Hp} {x : Int32} (hx : narrow .boolean (.int x) = .int x) : Run 236 874 L [.int x] h = some (.inl (some (.int x)), h) := Rd (if_pos hx)
set_option maxRecDepth 100000 in
theorem e236_875 {L : Lo} {S : List Value} {h : Hp} : Run 236 875 L S h = Run 236 1812 L S h := Rg rfl
set_option maxRecDepth 100000 in
theorem e236_878 {L : Lo} {S : List Value} {h : Hp} {x0 : Option Value} {v : Nat} : Run 236 878 (x0 :: some (.ref v) :: L) S h = Run 236 879 (x0 :: some (.ref v) :: L) (.ref v :: S) h := Rg rfl
set_option maxRecDepth 100000 in
theorem e236_879 {L : Lo} {S : List Value} {h : Hp} {v : Nat} : Run 236 879 (some (.ref v) :: L) S h = Run 236 880 (some (.ref v) :: L) (.ref v :: S) h := Rg rfl
set_option maxRecDepth 100000 in
theorem e236_880 {L : Lo} {S : List Value} {h : Hp} {x0 x1 x2 x3 x4 : Option Value} {v : Int32} : Run 236 880 (x0 :: x1 :: x2 :: x3 :: x4 :: some (.int v) :: L) S h = Run 236 882 (x0 :: x1 :: x2 :: x3 :: x4 :: some (.int v) :: L) (.int v :: S) h := Rg rfl
set_option maxRecDepth 100000 in
theorem e236_882 {L : Lo} {S : List Value} {h : Hp} : Run 236 882 L S h = Run 236 883 L (.int 1 :: S) h := Rg rfl
set_option maxRecDepth 100000 in
theorem e236_883 {L : Lo} {S : List Value} {h : Hp} {x z : Int32} : Run 236 883 L (.int z :: .int x :: S) h = Run 236 884 L (.int (x + z) :: S) h := Rg rfl
set_option maxRecDepth 100000 in
theorem e236_884 {L : Lo} {S : List Value} {h : Hp} {i : Int32} {b : Nat} : Run 236 884 L (.int i :: .ref b :: S) h = (gaI h b i).bind fun v => Run 236 885 L (.int v :: S) h := Rb rfl fun _ => rfl
set_option maxRecDepth 100000 in
theorem e236_885 {L : Lo} {S : List Value} {h : Hp} {v : Nat} : Run 236 885 (some (.ref v) :: L) S h = Run 236 886 (some (.ref v) :: L) (.ref v :: S) h := Rg rfl
set_option maxRecDepth 100000 in
theorem e236_886 {L : Lo} {S : List Value} {h : Hp} {x0 x1 x2 x3 x4 : Option Value} {v : Int32} : Run 236 886 (x0 :: x1 :: x2 :: x3 :: x4 :: some (.int v) :: L) S h = Run 236 888 (x0 :: x1 :: x2 :: x3 :: x4 :: some (.int v) :: L) (.int v :: S) h := Rg rfl
set_option maxRecDepth 100000 in
theorem e236_888 {L : Lo} {S : List Value} {h : Hp} : Run 236 888 L S h = Run 236 889 L (.int 2 :: S) h := Rg rfl
set_option maxRecDepth 100000 in
theorem e236_889 {L : Lo} {S : List Value} {h : Hp} {x z : Int32} : Run 236 889 L (.int z :: .int x :: S) h = Run 236 890 L (.int (x + z) :: S) h := Rg rfl
set_option maxRecDepth 100000 in
theorem e236_890 {L : Lo} {S : List Value} {h : Hp} {i : Int32} {b : Nat} : Run 236 890 L (.int i :: .ref b :: S) h = (gaI h b i).bind fun v => Run 236 891 L (.int v :: S) h := Rb rfl fun _ => rfl
set_option maxRecDepth 100000 in
theorem e236_891 {L : Lo} {S : List Value} {h : Hp} {x : Int32} : Run 236 891 L (.int x :: S) h = if x = 0 then Run 236 898 L S h else Run 236 894 L S h := Rbr (c := cnd .eq x 0 = true) (off := 7) rfl rfl cnd_eq
set_option maxRecDepth 100000 in
theorem e236_894 {L : Lo} {S : List Value} {h : Hp} : Run 236 894 L S h = Run 236 895 L (.int 1 :: S) h := Rg rfl
set_option maxRecDepth 100000 in
theorem e236_895 {L : Lo} {S : List Value} {h : Hp} : Run 236 895 L S h = Run 236 899 L S h := Rg rfl
set_option maxRecDepth 100000 in
theorem e236_898 {L : Lo} {S : List Value} {h : Hp} : Run 236 898 L S h = Run 236 899 L (.int 0 :: S) h := Rg rfl
set_option maxRecDepth 100000 in
theorem e236_899 {L : Lo} {S : List Value} {h : Hp} {x0 x1 x2 : Option Value} {v : Nat} : Run 236 899 (x0 :: x1 :: x2 :: some (.ref v) :: L) S h = Run 236 900 (x0 :: x1 :: x2 :: some (.ref v) :: L) (.ref v :: S) h := Rg rfl
set_option maxRecDepth 100000 in
theorem e236_900 {L : Lo} {h : Hp} {a3 : Nat} {a2 : Int32} {a1 : Int32} {a0 : Nat} : Run 236 900 L [.ref a3, .int a2, .int a1, .ref a0] h = (Run 223 0 [some (.ref a0), some (.int a1), some (.int a2), some (.ref a3), none] [] h).bind fun o => aft 236 900 903 L [] o := Rc (c := 223) (As := [.ref a0, .int a1, .int a2, .ref a3]) (S' := []) (pc' := 903) rfl
set_option maxRecDepth 100000 in
theorem e236_903 {L : Lo} {S : List Value} {h : Hp} {x0 x1 x2 x3 x4 x5 : Option Value} {y : Option Value} {v : Int32} : Run 236 903 (x0 :: x1 :: x2 :: x3 :: x4 :: x5 :: y :: L) (.int v :: S) h = Run 236 905 (x0 :: x1 :: x2 :: x3 :: x4 :: ck x5 :: some (.int v) :: L) S h := Rg rfl
set_option maxRecDepth 100000 in
theorem e236_905 {L : Lo} {S : List Value} {h : Hp} {x0 x1 : Option Value} {v : Nat} : Run 236 905 (x0 :: x1 :: some (.ref v) :: L) S h = Run 236 906 (x0 :: x1 :: some (.ref v) :: L) (.ref v :: S) h := Rg rfl
set_option maxRecDepth 100000 in
theorem e236_906 {L : Lo} {S : List Value} {h : Hp} {v : Nat} : Run 236 906 (some (.ref v) :: L) S h = Run 236 907 (some (.ref v) :: L) (.ref v :: S) h := Rg rfl
set_option maxRecDepth 100000 in
theorem e236_907 {L : Lo} {S : List Value} {h : Hp} {x0 x1 x2 x3 x4 : Option Value} {v : Int32} : Run 236 907 (x0 :: x1 :: x2 :: x3 :: x4 :: some (.int v) :: L) S h = Run 236 909 (x0 :: x1 :: x2 :: x3 :: x4 :: some (.int v) :: L) (.int v :: S) h := Rg rfl
set_option maxRecDepth 100000 in
theorem e236_909 {L : Lo} {S : List Value} {h : Hp} : Run 236 909 L S h = Run 236 910 L (.int 1 :: S) h := Rg rfl
set_option maxRecDepth 100000 in
theorem e236_910 {L : Lo} {S : List Value} {h : Hp} {x z : Int32} : Run 236 910 L (.int z :: .int x :: S) h = Run 236 911 L (.int (x + z) :: S) h := Rg rfl
set_option maxRecDepth 100000 in
theorem e236_911 {L : Lo} {S : List Value} {h : Hp} {i : Int32} {b : Nat} : Run 236 911 L (.int i :: .ref b :: S) h = (gaI h b i).bind fun v => Run 236 912 L (.int v :: S) h := Rb rfl fun _ => rfl
set_option maxRecDepth 100000 in
theorem e236_912 {L : Lo} {S : List Value} {h : Hp} {v : Nat} : Run 236 912 (some (.ref v) :: L) S h = Run 236 913 (some (.ref v) :: L) (.ref v :: S) h := Rg rfl
set_option maxRecDepth 100000 in
theorem e236_913 {L : Lo} {S : List Value} {h : Hp} {x0 x1 x2 x3 x4 : Option Value} {v : Int32} : Run 236 913 (x0 :: x1 :: x2 :: x3 :: x4 :: some (.int v) :: L) S h = Run 236 915 (x0 :: x1 :: x2 :: x3 :: x4 :: some (.int v) :: L) (.int v :: S) h := Rg rfl
set_option maxRecDepth 100000 in
theorem e236_915 {L : Lo} {S : List Value} {h : Hp} : Run 236 915 L S h = Run 236 916 L (.int 2 :: S) h := Rg rfl
set_option maxRecDepth 100000 in
theorem e236_916 {L : Lo} {S : List Value} {h : Hp} {x z : Int32} : Run 236 916 L (.int z :: .int x :: S) h = Run 236 917 L (.int (x + z) :: S) h := Rg rfl
set_option maxRecDepth 100000 in
theorem e236_917 {L : Lo} {S : List Value} {h : Hp} {i : Int32} {b : Nat} : Run 236 917 L (.int i :: .ref b :: S) h = (gaI h b i).bind fun v => Run 236 918 L (.int v :: S) h := Rb rfl fun _ => rfl
set_option maxRecDepth 100000 in
theorem e236_918 {L : Lo} {S : List Value} {h : Hp} {x : Int32} : Run 236 918 L (.int x :: S) h = if x = 0 then Run 236 925 L S h else Run 236 921 L S h := Rbr (c := cnd .eq x 0 = true) (off := 7) rfl rfl cnd_eq
set_option maxRecDepth 100000 in
theorem e236_921 {L : Lo} {S : List Value} {h : Hp} : Run 236 921 L S h = Run 236 922 L (.int 1 :: S) h := Rg rfl
set_option maxRecDepth 100000 in
theorem e236_922 {L : Lo} {S : List Value} {h : Hp} : Run 236 922 L S h = Run 236 926 L S h := Rg rfl
set_option maxRecDepth 100000 in
theorem e236_925 {L : Lo} {S : List Value} {h : Hp} : Run 236 925 L S h = Run 236 926 L (.int 0 :: S) h := Rg rfl
set_option maxRecDepth 100000 in
theorem e236_926 {L : Lo} {h : Hp} {a2 : Int32} {a1 : Int32} {a0 : Nat} (hO : isO h a0 9 = true) : Run 236 926 L [.int a2, .int a1, .ref a0] h = (Run 165 0 [some (.ref a0), some (.int a1), some (.int a2)] [] h).bind fun o => aft 236 926 929 L [] o := Rcv (c := 165) (As := [.int a1, .int a2]) (S' := []) (pc' := 929) 9 rfl hO
set_option maxRecDepth 100000 in
theorem e236_929 {L : Lo} {S : List Value} {h : Hp} {x0 x1 x2 x3 x4 x5 x6 : Option Value} {y : Option Value} {v : Int32} : Run 236 929 (x0 :: x1 :: x2 :: x3 :: x4 :: x5 :: x6 :: y :: L) (.int v :: S) h = Run 236 931 (x0 :: x1 :: x2 :: x3 :: x4 :: x5 :: ck x6 :: some (.int v) :: L) S h := Rg rfl
set_option maxRecDepth 100000 in
theorem e236_931 {L : Lo} {S : List Value} {h : Hp} {x0 x1 : Option Value} {v : Nat} : Run 236 931 (x0 :: x1 :: some (.ref v) :: L) S h = Run 236 932 (x0 :: x1 :: some (.ref v) :: L) (.ref v :: S) h := Rg rfl
set_option maxRecDepth 100000 in
theorem e236_932 {L : Lo} {h : Hp} {a0 : Nat} (hO : isO h a0 9 = true) : Run 236 932 L [.ref a0] h = (Run 117 0 [some (.ref a0)] [] h).bind fun o => aft 236 932 935 L [] o := Rcv (c := 117) (As := []) (S' := []) (pc' := 935) 9 rfl hO
set_option maxRecDepth 100000 in
theorem e236_935 {L : Lo} {S : List Value} {h : Hp} {x0 x1 x2 x3 x4 x5 : Option Value} {v : Int32} : Run 236 935 (x0 :: x1 :: x2 :: x3 :: x4 :: x5 :: some (.int v) :: L) S h = Run 236 937 (x0 :: x1 :: x2 :: x3 :: x4 :: x5 :: some (.int v) :: L) (.int v :: S) h := Rg rfl
set_option maxRecDepth 100000 in
theorem e236_937 {L : Lo} {S : List Value} {h : Hp} {x z : Int32} : Run 236 937 L (.int z :: .int x :: S) h = if x = z then Run 236 942 L S h else Run 236 940 L S h := Rbr (c := cnd .eq x z = true) (off := 5) rfl rfl cnd_eq
set_option maxRecDepth 100000 in
theorem e236_940 {L : Lo} {S : List Value} {h : Hp} : Run 236 940 L S h = Run 236 941 L (.int 0 :: S) h := Rg rfl
set_option maxRecDepth 100000 in
theorem e236_941 {L : Lo} {h : Hp} {x : Int32} (hx : narrow .boolean (.int x) = .int x) : Run 236 941 L [.int x] h = some (.inl (some (.int x)), h) := Rd (if_pos hx)
set_option maxRecDepth 100000 in
theorem e236_942 {L : Lo} {S : List Value} {h : Hp} {x0 x1 x2 x3 x4 x5 : Option Value} {v : Int32} : Run 236 942 (x0 :: x1 :: x2 :: x3 :: x4 :: x5 :: some (.int v) :: L) S h = Run 236 944 (x0 :: x1 :: x2 :: x3 :: x4 :: x5 :: some (.int v) :: L) (.int v :: S) h := Rg rfl
set_option maxRecDepth 100000 in
theorem e236_944 {L : Lo} {S : List Value} {h : Hp} {x : Int32} : Run 236 944 L (.int x :: S) h = if x = 0 then Run 236 947 L S h else Run 236 959 L S h := RbrN (c := cnd .ne x 0 = true) (off := 15) rfl rfl cnd_ne
set_option maxRecDepth 100000 in
theorem e236_947 {L : Lo} {S : List Value} {h : Hp} {x0 x1 x2 : Option Value} {v : Nat} : Run 236 947 (x0 :: x1 :: x2 :: some (.ref v) :: L) S h = Run 236 948 (x0 :: x1 :: x2 :: some (.ref v) :: L) (.ref v :: S) h := Rg rfl
set_option maxRecDepth 100000 in
theorem e236_948 {L : Lo} {S : List Value} {h : Hp} : Run 236 948 L S h = Run 236 949 L (.int 0 :: S) h := Rg rfl
set_option maxRecDepth 100000 in
theorem e236_949 {L : Lo} {S : List Value} {h : Hp} {i : Int32} {b : Nat} : Run 236 949 L (.int i :: .ref b :: S) h = (gaJ h b i).bind fun v => Run 236 950 L (.long v :: S) h := Rb rfl fun _ => rfl
set_option maxRecDepth 100000 in
theorem e236_950 {L : Lo} {S : List Value} {h : Hp} {x0 x1 x2 x3 x4 x5 x6 : Option Value} {v : Int32} : Run 236 950 (x0 :: x1 :: x2 :: x3 :: x4 :: x5 :: x6 :: some (.int v) :: L) S h = Run 236 952 (x0 :: x1 :: x2 :: x3 :: x4 :: x5 :: x6 :: some (.int v) :: L) (.int v :: S) h := Rg rfl
set_option maxRecDepth 100000 in
theorem e236_952 {L : Lo} {S : List Value} {h : Hp} {x : Int32} : Run 236 952 L (.int x :: S) h = Run 236 953 L (.long x.toInt64 :: S) h := Rg rfl
set_option maxRecDepth 100000 in
theorem e236_953 {L : Lo} {S : List Value} {h : Hp} {x z : Int64} : Run 236 953 L (.long z :: .long x :: S) h = Run 236 954 L (.int (lg_cmp x z) :: S) h := Rg rfl
set_option maxRecDepth 100000 in
theorem e236_954 {L : Lo} {S : List Value} {h : Hp} {x : Int32} : Run 236 954 L (.int x :: S) h = if x = 0 then Run 236 959 L S h else Run 236 957 L S h := Rbr (c := cnd .eq x 0 = true) (off := 5) rfl rfl cnd_eq
set_option maxRecDepth 100000 in
theorem e236_957 {L : Lo} {S : List Value} {h : Hp} : Run 236 957 L S h = Run 236 958 L (.int 0 :: S) h := Rg rfl
set_option maxRecDepth 100000 in
theorem e236_958 {L : Lo} {h : Hp} {x : Int32} (hx : narrow .boolean (.int x) = .int x) : Run 236 958 L [.int x] h = some (.inl (some (.int x)), h) := Rd (if_pos hx)
set_option maxRecDepth 100000 in
theorem e236_959 {L : Lo} {S : List Value} {h : Hp} : Run 236 959 L S h = Run 236 1812 L S h := Rg rfl
set_option maxRecDepth 100000 in
theorem e236_962 {L : Lo} {S : List Value} {h : Hp} {x0 : Option Value} {v : Nat} : Run 236 962 (x0 :: some (.ref v) :: L) S h = Run 236 963 (x0 :: some (.ref v) :: L) (.ref v :: S) h := Rg rfl
set_option maxRecDepth 100000 in
theorem e236_963 {L : Lo} {h : Hp} {a0 : Nat} (hO : isO h a0 8 = true) : Run 236 963 L [.ref a0] h = (Run 94 0 [some (.ref a0)] [] h).bind fun o => aft 236 963 966 L [] o := Rcv (c := 94) (As := []) (S' := []) (pc' := 966) 8 rfl hO
set_option maxRecDepth 100000 in
theorem e236_966 {L : Lo} {S : List Value} {h : Hp} {x0 x1 : Option Value} {v : Nat} : Run 236 966 (x0 :: x1 :: some (.ref v) :: L) S h = Run 236 967 (x0 :: x1 :: some (.ref v) :: L) (.ref v :: S) h := Rg rfl
set_option maxRecDepth 100000 in
theorem e236_967 {L : Lo} {h : Hp} {a1 : Nat} {a0 : Int32} (hO : isO h a1 9 = true) : Run 236 967 L [.ref a1, .int a0] h = (Run 167 0 [some (.ref a1)] [] h).bind fun o => aft 236 967 970 L [.int a0] o := Rcv (c := 167) (As := []) (S' := [.int a0]) (pc' := 970) 9 rfl hO
set_option maxRecDepth 100000 in
theorem e236_970 {L : Lo} {S : List Value} {h : Hp} {x z : Int32} : Run 236 970 L (.int z :: .int x :: S) h = if x = z then Run 236 1812 L S h else Run 236 973 L S h := Rbr (c := cnd .eq x z = true) (off := 842) rfl rfl cnd_eq
set_option maxRecDepth 100000 in
theorem e236_973 {L : Lo} {S : List Value} {h : Hp} : Run 236 973 L S h = Run 236 974 L (.int 0 :: S) h := Rg rfl
set_option maxRecDepth 100000 in
theorem e236_974 {L : Lo} {h : Hp} {x : Int32} (hx : narrow .boolean (.int x) = .int x) : Run 236 974 L [.int x] h = some (.inl (some (.int x)), h) := Rd (if_pos hx)
set_option maxRecDepth 100000 in
theorem e236_975 {L : Lo} {S : List Value} {h : Hp} {x0 : Option Value} {v : Nat} : Run 236 975 (x0 :: some (.ref v) :: L) S h = Run 236 976 (x0 :: some (.ref v) :: L) (.ref v :: S) h := Rg rfl
set_option maxRecDepth 100000 in
theorem e236_976 {L : Lo} {S : List Value} {h : Hp} {v : Nat} : Run 236 976 (some (.ref v) :: L) S h = Run 236 977 (some (.ref v) :: L) (.ref v :: S) h := Rg rfl
set_option maxRecDepth 100000 in
theorem e236_977 {L : Lo} {S : List Value} {h : Hp} {x0 x1 x2 x3 x4 : Option Value} {v : Int32} : Run 236 977 (x0 :: x1 :: x2 :: x3 :: x4 :: some (.int v) :: L) S h = Run 236 979 (x0 :: x1 :: x2 :: x3 :: x4 :: some (.int v) :: L) (.int v :: S) h := Rg rfl
set_option maxRecDepth 100000 in
theorem e236_979 {L : Lo} {S : List Value} {h : Hp} : Run 236 979 L S h = Run 236 980 L (.int 1 :: S) h := Rg rfl
set_option maxRecDepth 100000 in
theorem e236_980 {L : Lo} {S : List Value} {h : Hp} {x z : Int32} : Run 236 980 L (.int z :: .int x :: S) h = Run 236 981 L (.int (x + z) :: S) h := Rg rfl
set_option maxRecDepth 100000 in
theorem e236_981 {L : Lo} {S : List Value} {h : Hp} {i : Int32} {b : Nat} : Run 236 981 L (.int i :: .ref b :: S) h = (gaI h b i).bind fun v => Run 236 982 L (.int v :: S) h := Rb rfl fun _ => rfl
set_option maxRecDepth 100000 in
theorem e236_982 {L : Lo} {S : List Value} {h : Hp} {v : Nat} : Run 236 982 (some (.ref v) :: L) S h = Run 236 983 (some (.ref v) :: L) (.ref v :: S) h := Rg rfl
set_option maxRecDepth 100000 in
theorem e236_983 {L : Lo} {S : List Value} {h : Hp} {x0 x1 x2 x3 x4 : Option Value} {v : Int32} : Run 236 983 (x0 :: x1 :: x2 :: x3 :: x4 :: some (.int v) :: L) S h = Run 236 985 (x0 :: x1 :: x2 :: x3 :: x4 :: some (.int v) :: L) (.int v :: S) h := Rg rfl
set_option maxRecDepth 100000 in
theorem e236_985 {L : Lo} {S : List Value} {h : Hp} : Run 236 985 L S h = Run 236 986 L (.int 2 :: S) h := Rg rfl
set_option maxRecDepth 100000 in
theorem e236_986 {L : Lo} {S : List Value} {h : Hp} {x z : Int32} : Run 236 986 L (.int z :: .int x :: S) h = Run 236 987 L (.int (x + z) :: S) h := Rg rfl
set_option maxRecDepth 100000 in
theorem e236_987 {L : Lo} {S : List Value} {h : Hp} {i : Int32} {b : Nat} : Run 236 987 L (.int i :: .ref b :: S) h = (gaI h b i).bind fun v => Run 236 988 L (.int v :: S) h := Rb rfl fun _ => rfl
set_option maxRecDepth 100000 in
theorem e236_988 {L : Lo} {S : List Value} {h : Hp} {x : Int32} : Run 236 988 L (.int x :: S) h = if x = 0 then Run 236 995 L S h else Run 236 991 L S h := Rbr (c := cnd .eq x 0 = true) (off := 7) rfl rfl cnd_eq
set_option maxRecDepth 100000 in
theorem e236_991 {L : Lo} {S : List Value} {h : Hp} : Run 236 991 L S h = Run 236 992 L (.int 1 :: S) h := Rg rfl
set_option maxRecDepth 100000 in
theorem e236_992 {L : Lo} {S : List Value} {h : Hp} : Run 236 992 L S h = Run 236 996 L S h := Rg rfl
set_option maxRecDepth 100000 in
theorem e236_995 {L : Lo} {S : List Value} {h : Hp} : Run 236 995 L S h = Run 236 996 L (.int 0 :: S) h := Rg rfl
set_option maxRecDepth 100000 in
theorem e236_996 {L : Lo} {S : List Value} {h : Hp} {v : Nat} : Run 236 996 (some (.ref v) :: L) S h = Run 236 997 (some (.ref v) :: L) (.ref v :: S) h := Rg rfl
set_option maxRecDepth 100000 in
theorem e236_997 {L : Lo} {S : List Value} {h : Hp} {x0 x1 x2 x3 x4 : Option Value} {v : Int32} : Run 236 997 (x0 :: x1 :: x2 :: x3 :: x4 :: some (.int v) :: L) S h = Run 236 999 (x0 :: x1 :: x2 :: x3 :: x4 :: some (.int v) :: L) (.int v :: S) h := Rg rfl
set_option maxRecDepth 100000 in
theorem e236_999 {L : Lo} {S : List Value} {h : Hp} : Run 236 999 L S h = Run 236 1000 L (.int 3 :: S) h := Rg rfl
set_option maxRecDepth 100000 in
theorem e236_1000 {L : Lo} {S : List Value} {h : Hp} {x z : Int32} : Run 236 1000 L (.int z :: .int x :: S) h = Run 236 1001 L (.int (x + z) :: S) h := Rg rfl
set_option maxRecDepth 100000 in
theorem e236_1001 {L : Lo} {S : List Value} {h : Hp} {i : Int32} {b : Nat} : Run 236 1001 L (.int i :: .ref b :: S) h = (gaI h b i).bind fun v => Run 236 1002 L (.int v :: S) h := Rb rfl fun _ => rfl
set_option maxRecDepth 100000 in
theorem e236_1002 {L : Lo} {S : List Value} {h : Hp} {x0 x1 x2 : Option Value} {v : Nat} : Run 236 1002 (x0 :: x1 :: x2 :: some (.ref v) :: L) S h = Run 236 1003 (x0 :: x1 :: x2 :: some (.ref v) :: L) (.ref v :: S) h := Rg rfl
set_option maxRecDepth 100000 in
theorem e236_1003 {L : Lo} {h : Hp} {a4 : Nat} {a3 : Int32} {a2 : Int32} {a1 : Int32} {a0 : Nat} : Run 236 1003 L [.ref a4, .int a3, .int a2, .int a1, .ref a0] h = (Run 224 0 [some (.ref a0), some (.int a1), some (.int a2), some (.int a3), some (.ref a4), none] [] h).bind fun o => aft 236 1003 1006 L [] o := Rc (c := 224) (As := [.ref a0, .int a1, .int a2, .int a3, .ref a4]) (S' := []) (pc' := 1006) rfl
set_option maxRecDepth 100000 in
theorem e236_1006 {L : Lo} {S : List Value} {h : Hp} {x0 x1 x2 x3 x4 x5 : Option Value} {y : Option Value} {v : Int32} : Run 236 1006 (x0 :: x1 :: x2 :: x3 :: x4 :: x5 :: y :: L) (.int v :: S) h = Run 236 1008 (x0 :: x1 :: x2 :: x3 :: x4 :: ck x5 :: some (.int v) :: L) S h := Rg rfl
set_option maxRecDepth 100000 in
theorem e236_1008 {L : Lo} {S : List Value} {h : Hp} {x0 x1 : Option Value} {v : Nat} : Run 236 1008 (x0 :: x1 :: some (.ref v) :: L) S h = Run 236 1009 (x0 :: x1 :: some (.ref v) :: L) (.ref v :: S) h := Rg rfl
set_option maxRecDepth 100000 in
theorem e236_1009 {L : Lo} {S : List Value} {h : Hp} {v : Nat} : Run 236 1009 (some (.ref v) :: L) S h = Run 236 1010 (some (.ref v) :: L) (.ref v :: S) h := Rg rfl
set_option maxRecDepth 100000 in
theorem e236_1010 {L : Lo} {S : List Value} {h : Hp} {x0 x1 x2 x3 x4 : Option Value} {v : Int32} : Run 236 1010 (x0 :: x1 :: x2 :: x3 :: x4 :: some (.int v) :: L) S h = Run 236 1012 (x0 :: x1 :: x2 :: x3 :: x4 :: some (.int v) :: L) (.int v :: S) h := Rg rfl
set_option maxRecDepth 100000 in
theorem e236_1012 {L : Lo} {S : List Value} {h : Hp} : Run 236 1012 L S h = Run 236 1013 L (.int 1 :: S) h := Rg rfl
set_option maxRecDepth 100000 in
theorem e236_1013 {L : Lo} {S : List Value} {h : Hp} {x z : Int32} : Run 236 1013 L (.int z :: .int x :: S) h = Run 236 1014 L (.int (x + z) :: S) h := Rg rfl
set_option maxRecDepth 100000 in
theorem e236_1014 {L : Lo} {S : List Value} {h : Hp} {i : Int32} {b : Nat} : Run 236 1014 L (.int i :: .ref b :: S) h = (gaI h b i).bind fun v => Run 236 1015 L (.int v :: S) h := Rb rfl fun _ => rfl
set_option maxRecDepth 100000 in
theorem e236_1015 {L : Lo} {S : List Value} {h : Hp} {v : Nat} : Run 236 1015 (some (.ref v) :: L) S h = Run 236 1016 (some (.ref v) :: L) (.ref v :: S) h := Rg rfl
set_option maxRecDepth 100000 in
theorem e236_1016 {L : Lo} {S : List Value} {h : Hp} {x0 x1 x2 x3 x4 : Option Value} {v : Int32} : Run 236 1016 (x0 :: x1 :: x2 :: x3 :: x4 :: some (.int v) :: L) S h = Run 236 1018 (x0 :: x1 :: x2 :: x3 :: x4 :: some (.int v) :: L) (.int v :: S) h := Rg rfl
set_option maxRecDepth 100000 in
theorem e236_1018 {L : Lo} {S : List Value} {h : Hp} : Run 236 1018 L S h = Run 236 1019 L (.int 2 :: S) h := Rg rfl
set_option maxRecDepth 100000 in
theorem e236_1019 {L : Lo} {S : List Value} {h : Hp} {x z : Int32} : Run 236 1019 L (.int z :: .int x :: S) h = Run 236 1020 L (.int (x + z) :: S) h := Rg rfl
set_option maxRecDepth 100000 in
theorem e236_1020 {L : Lo} {S : List Value} {h : Hp} {i : Int32} {b : Nat} : Run 236 1020 L (.int i :: .ref b :: S) h = (gaI h b i).bind fun v => Run 236 1021 L (.int v :: S) h := Rb rfl fun _ => rfl
set_option maxRecDepth 100000 in
theorem e236_1021 {L : Lo} {S : List Value} {h : Hp} {x : Int32} : Run 236 1021 L (.int x :: S) h = if x = 0 then Run 236 1028 L S h else Run 236 1024 L S h := Rbr (c := cnd .eq x 0 = true) (off := 7) rfl rfl cnd_eq
set_option maxRecDepth 100000 in
theorem e236_1024 {L : Lo} {S : List Value} {h : Hp} : Run 236 1024 L S h = Run 236 1025 L (.int 1 :: S) h := Rg rfl
set_option maxRecDepth 100000 in
theorem e236_1025 {L : Lo} {S : List Value} {h : Hp} : Run 236 1025 L S h = Run 236 1029 L S h := Rg rfl
set_option maxRecDepth 100000 in
theorem e236_1028 {L : Lo} {S : List Value} {h : Hp} : Run 236 1028 L S h = Run 236 1029 L (.int 0 :: S) h := Rg rfl
set_option maxRecDepth 100000 in
theorem e236_1029 {L : Lo} {S : List Value} {h : Hp} {v : Nat} : Run 236 1029 (some (.ref v) :: L) S h = Run 236 1030 (some (.ref v) :: L) (.ref v :: S) h := Rg rfl
set_option maxRecDepth 100000 in
theorem e236_1030 {L : Lo} {S : List Value} {h : Hp} {x0 x1 x2 x3 x4 : Option Value} {v : Int32} : Run 236 1030 (x0 :: x1 :: x2 :: x3 :: x4 :: some (.int v) :: L) S h = Run 236 1032 (x0 :: x1 :: x2 :: x3 :: x4 :: some (.int v) :: L) (.int v :: S) h := Rg rfl
set_option maxRecDepth 100000 in
theorem e236_1032 {L : Lo} {S : List Value} {h : Hp} : Run 236 1032 L S h = Run 236 1033 L (.int 3 :: S) h := Rg rfl
set_option maxRecDepth 100000 in
theorem e236_1033 {L : Lo} {S : List Value} {h : Hp} {x z : Int32} : Run 236 1033 L (.int z :: .int x :: S) h = Run 236 1034 L (.int (x + z) :: S) h := Rg rfl
set_option maxRecDepth 100000 in
theorem e236_1034 {L : Lo} {S : List Value} {h : Hp} {i : Int32} {b : Nat} : Run 236 1034 L (.int i :: .ref b :: S) h = (gaI h b i).bind fun v => Run 236 1035 L (.int v :: S) h := Rb rfl fun _ => rfl
set_option maxRecDepth 100000 in
theorem e236_1035 {L : Lo} {h : Hp} {a3 : Int32} {a2 : Int32} {a1 : Int32} {a0 : Nat} (hO : isO h a0 9 = true) : Run 236 1035 L [.int a3, .int a2, .int a1, .ref a0] h = (Run 171 0 [some (.ref a0), some (.int a1), some (.int a2), some (.int a3)] [] h).bind fun o => aft 236 1035 1038 L [] o := Rcv (c := 171) (As := [.int a1, .int a2, .int a3]) (S' := []) (pc' := 1038) 9 rfl hO
set_option maxRecDepth 100000 in
theorem e236_1038 {L : Lo} {S : List Value} {h : Hp} {x0 x1 x2 x3 x4 x5 x6 : Option Value} {y : Option Value} {v : Int32} : Run 236 1038 (x0 :: x1 :: x2 :: x3 :: x4 :: x5 :: x6 :: y :: L) (.int v :: S) h = Run 236 1040 (x0 :: x1 :: x2 :: x3 :: x4 :: x5 :: ck x6 :: some (.int v) :: L) S h := Rg rfl
set_option maxRecDepth 100000 in
theorem e236_1040 {L : Lo} {S : List Value} {h : Hp} {x0 x1 : Option Value} {v : Nat} : Run 236 1040 (x0 :: x1 :: some (.ref v) :: L) S h = Run 236 1041 (x0 :: x1 :: some (.ref v) :: L) (.ref v :: S) h := Rg rfl
set_option maxRecDepth 100000 in
theorem e236_1041 {L : Lo} {h : Hp} {a0 : Nat} (hO : isO h a0 9 = true) : Run 236 1041 L [.ref a0] h = (Run 117 0 [some (.ref a0)] [] h).bind fun o => aft 236 1041 1044 L [] o := Rcv (c := 117) (As := []) (S' := []) (pc' := 1044) 9 rfl hO
set_option maxRecDepth 100000 in
theorem e236_1044 {L : Lo} {S : List Value} {h : Hp} {x0 x1 x2 x3 x4 x5 : Option Value} {v : Int32} : Run 236 1044 (x0 :: x1 :: x2 :: x3 :: x4 :: x5 :: some (.int v) :: L) S h = Run 236 1046 (x0 :: x1 :: x2 :: x3 :: x4 :: x5 :: some (.int v) :: L) (.int v :: S) h := Rg rfl
set_option maxRecDepth 100000 in
theorem e236_1046 {L : Lo} {S : List Value} {h : Hp} {x z : Int32} : Run 236 1046 L (.int z :: .int x :: S) h = if x = z then Run 236 1051 L S h else Run 236 1049 L S h := Rbr (c := cnd .eq x z = true) (off := 5) rfl rfl cnd_eq
set_option maxRecDepth 100000 in
theorem e236_1049 {L : Lo} {S : List Value} {h : Hp} : Run 236 1049 L S h = Run 236 1050 L (.int 0 :: S) h := Rg rfl
set_option maxRecDepth 100000 in
theorem e236_1050 {L : Lo} {h : Hp} {x : Int32} (hx : narrow .boolean (.int x) = .int x) : Run 236 1050 L [.int x] h = some (.inl (some (.int x)), h) := Rd (if_pos hx)
set_option maxRecDepth 100000 in
theorem e236_1051 {L : Lo} {S : List Value} {h : Hp} {x0 x1 x2 x3 x4 x5 : Option Value} {v : Int32} : Run 236 1051 (x0 :: x1 :: x2 :: x3 :: x4 :: x5 :: some (.int v) :: L) S h = Run 236 1053 (x0 :: x1 :: x2 :: x3 :: x4 :: x5 :: some (.int v) :: L) (.int v :: S) h := Rg rfl
set_option maxRecDepth 100000 in
theorem e236_1053 {L : Lo} {S : List Value} {h : Hp} {x : Int32} : Run 236 1053 L (.int x :: S) h = if x = 0 then Run 236 1056 L S h else Run 236 1068 L S h := RbrN (c := cnd .ne x 0 = true) (off := 15) rfl rfl cnd_ne
set_option maxRecDepth 100000 in
theorem e236_1056 {L : Lo} {S : List Value} {h : Hp} {x0 x1 x2 : Option Value} {v : Nat} : Run 236 1056 (x0 :: x1 :: x2 :: some (.ref v) :: L) S h = Run 236 1057 (x0 :: x1 :: x2 :: some (.ref v) :: L) (.ref v :: S) h := Rg rfl
set_option maxRecDepth 100000 in
theorem e236_1057 {L : Lo} {S : List Value} {h : Hp} : Run 236 1057 L S h = Run 236 1058 L (.int 0 :: S) h := Rg rfl
set_option maxRecDepth 100000 in
theorem e236_1058 {L : Lo} {S : List Value} {h : Hp} {i : Int32} {b : Nat} : Run 236 1058 L (.int i :: .ref b :: S) h = (gaJ h b i).bind fun v => Run 236 1059 L (.long v :: S) h := Rb rfl fun _ => rfl
set_option maxRecDepth 100000 in
theorem e236_1059 {L : Lo} {S : List Value} {h : Hp} {x0 x1 x2 x3 x4 x5 x6 : Option Value} {v : Int32} : Run 236 1059 (x0 :: x1 :: x2 :: x3 :: x4 :: x5 :: x6 :: some (.int v) :: L) S h = Run 236 1061 (x0 :: x1 :: x2 :: x3 :: x4 :: x5 :: x6 :: some (.int v) :: L) (.int v :: S) h := Rg rfl
set_option maxRecDepth 100000 in
theorem e236_1061 {L : Lo} {S : List Value} {h : Hp} {x : Int32} : Run 236 1061 L (.int x :: S) h = Run 236 1062 L (.long x.toInt64 :: S) h := Rg rfl
set_option maxRecDepth 100000 in
theorem e236_1062 {L : Lo} {S : List Value} {h : Hp} {x z : Int64} : Run 236 1062 L (.long z :: .long x :: S) h = Run 236 1063 L (.int (lg_cmp x z) :: S) h := Rg rfl
set_option maxRecDepth 100000 in
theorem e236_1063 {L : Lo} {S : List Value} {h : Hp} {x : Int32} : Run 236 1063 L (.int x :: S) h = if x = 0 then Run 236 1068 L S h else Run 236 1066 L S h := Rbr (c := cnd .eq x 0 = true) (off := 5) rfl rfl cnd_eq
set_option maxRecDepth 100000 in
theorem e236_1066 {L : Lo} {S : List Value} {h : Hp} : Run 236 1066 L S h = Run 236 1067 L (.int 0 :: S) h := Rg rfl
set_option maxRecDepth 100000 in
theorem e236_1067 {L : Lo} {h : Hp} {x : Int32} (hx : narrow .boolean (.int x) = .int x) : Run 236 1067 L [.int x] h = some (.inl (some (.int x)), h) := Rd (if_pos hx)
set_option maxRecDepth 100000 in
theorem e236_1068 {L : Lo} {S : List Value} {h : Hp} : Run 236 1068 L S h = Run 236 1812 L S h := Rg rfl
set_option maxRecDepth 100000 in
theorem e236_1071 {L : Lo} {S : List Value} {h : Hp} {x0 : Option Value} {v : Nat} : Run 236 1071 (x0 :: some (.ref v) :: L) S h = Run 236 1072 (x0 :: some (.ref v) :: L) (.ref v :: S) h := Rg rfl
set_option maxRecDepth 100000 in
theorem e236_1072 {L : Lo} {S : List Value} {h : Hp} {v : Nat} : Run 236 1072 (some (.ref v) :: L) S h = Run 236 1073 (some (.ref v) :: L) (.ref v :: S) h := Rg rfl
set_option maxRecDepth 100000 in
theorem e236_1073 {L : Lo} {S : List Value} {h : Hp} {x0 x1 x2 x3 x4 : Option Value} {v : Int32} : Run 236 1073 (x0 :: x1 :: x2 :: x3 :: x4 :: some (.int v) :: L) S h = Run 236 1075 (x0 :: x1 :: x2 :: x3 :: x4 :: some (.int v) :: L) (.int v :: S) h := Rg rfl
set_option maxRecDepth 100000 in
theorem e236_1075 {L : Lo} {S : List Value} {h : Hp} : Run 236 1075 L S h = Run 236 1076 L (.int 1 :: S) h := Rg rfl
set_option maxRecDepth 100000 in
theorem e236_1076 {L : Lo} {S : List Value} {h : Hp} {x z : Int32} : Run 236 1076 L (.int z :: .int x :: S) h = Run 236 1077 L (.int (x + z) :: S) h := Rg rfl
set_option maxRecDepth 100000 in
theorem e236_1077 {L : Lo} {S : List Value} {h : Hp} {i : Int32} {b : Nat} : Run 236 1077 L (.int i :: .ref b :: S) h = (gaI h b i).bind fun v => Run 236 1078 L (.int v :: S) h := Rb rfl fun _ => rfl
set_option maxRecDepth 100000 in
theorem e236_1078 {L : Lo} {S : List Value} {h : Hp} {v : Nat} : Run 236 1078 (some (.ref v) :: L) S h = Run 236 1079 (some (.ref v) :: L) (.ref v :: S) h := Rg rfl
set_option maxRecDepth 100000 in
theorem e236_1079 {L : Lo} {S : List Value} {h : Hp} {x0 x1 x2 x3 x4 : Option Value} {v : Int32} : Run 236 1079 (x0 :: x1 :: x2 :: x3 :: x4 :: some (.int v) :: L) S h = Run 236 1081 (x0 :: x1 :: x2 :: x3 :: x4 :: some (.int v) :: L) (.int v :: S) h := Rg rfl
set_option maxRecDepth 100000 in
theorem e236_1081 {L : Lo} {S : List Value} {h : Hp} : Run 236 1081 L S h = Run 236 1082 L (.int 2 :: S) h := Rg rfl
set_option maxRecDepth 100000 in
theorem e236_1082 {L : Lo} {S : List Value} {h : Hp} {x z : Int32} : Run 236 1082 L (.int z :: .int x :: S) h = Run 236 1083 L (.int (x + z) :: S) h := Rg rfl
set_option maxRecDepth 100000 in
theorem e236_1083 {L : Lo} {S : List Value} {h : Hp} {i : Int32} {b : Nat} : Run 236 1083 L (.int i :: .ref b :: S) h = (gaI h b i).bind fun v => Run 236 1084 L (.int v :: S) h := Rb rfl fun _ => rfl
set_option maxRecDepth 100000 in
theorem e236_1084 {L : Lo} {S : List Value} {h : Hp} {x : Int32} : Run 236 1084 L (.int x :: S) h = if x = 0 then Run 236 1091 L S h else Run 236 1087 L S h := Rbr (c := cnd .eq x 0 = true) (off := 7) rfl rfl cnd_eq
set_option maxRecDepth 100000 in
theorem e236_1087 {L : Lo} {S : List Value} {h : Hp} : Run 236 1087 L S h = Run 236 1088 L (.int 1 :: S) h := Rg rfl
set_option maxRecDepth 100000 in
theorem e236_1088 {L : Lo} {S : List Value} {h : Hp} : Run 236 1088 L S h = Run 236 1092 L S h := Rg rfl
set_option maxRecDepth 100000 in
theorem e236_1091 {L : Lo} {S : List Value} {h : Hp} : Run 236 1091 L S h = Run 236 1092 L (.int 0 :: S) h := Rg rfl
set_option maxRecDepth 100000 in
theorem e236_1092 {L : Lo} {S : List Value} {h : Hp} {v : Nat} : Run 236 1092 (some (.ref v) :: L) S h = Run 236 1093 (some (.ref v) :: L) (.ref v :: S) h := Rg rfl
set_option maxRecDepth 100000 in
theorem e236_1093 {L : Lo} {S : List Value} {h : Hp} {x0 x1 x2 x3 x4 : Option Value} {v : Int32} : Run 236 1093 (x0 :: x1 :: x2 :: x3 :: x4 :: some (.int v) :: L) S h = Run 236 1095 (x0 :: x1 :: x2 :: x3 :: x4 :: some (.int v) :: L) (.int v :: S) h := Rg rfl
set_option maxRecDepth 100000 in
theorem e236_1095 {L : Lo} {S : List Value} {h : Hp} : Run 236 1095 L S h = Run 236 1096 L (.int 3 :: S) h := Rg rfl
set_option maxRecDepth 100000 in
theorem e236_1096 {L : Lo} {S : List Value} {h : Hp} {x z : Int32} : Run 236 1096 L (.int z :: .int x :: S) h = Run 236 1097 L (.int (x + z) :: S) h := Rg rfl
set_option maxRecDepth 100000 in
theorem e236_1097 {L : Lo} {S : List Value} {h : Hp} {i : Int32} {b : Nat} : Run 236 1097 L (.int i :: .ref b :: S) h = (gaI h b i).bind fun v => Run 236 1098 L (.int v :: S) h := Rb rfl fun _ => rfl
set_option maxRecDepth 100000 in
theorem e236_1098 {L : Lo} {S : List Value} {h : Hp} {v : Nat} : Run 236 1098 (some (.ref v) :: L) S h = Run 236 1099 (some (.ref v) :: L) (.ref v :: S) h := Rg rfl
set_option maxRecDepth 100000 in
theorem e236_1099 {L : Lo} {S : List Value} {h : Hp} {x0 x1 x2 x3 x4 : Option Value} {v : Int32} : Run 236 1099 (x0 :: x1 :: x2 :: x3 :: x4 :: some (.int v) :: L) S h = Run 236 1101 (x0 :: x1 :: x2 :: x3 :: x4 :: some (.int v) :: L) (.int v :: S) h := Rg rfl
set_option maxRecDepth 100000 in
theorem e236_1101 {L : Lo} {S : List Value} {h : Hp} : Run 236 1101 L S h = Run 236 1102 L (.int 4 :: S) h := Rg rfl
set_option maxRecDepth 100000 in
theorem e236_1102 {L : Lo} {S : List Value} {h : Hp} {x z : Int32} : Run 236 1102 L (.int z :: .int x :: S) h = Run 236 1103 L (.int (x + z) :: S) h := Rg rfl
set_option maxRecDepth 100000 in
theorem e236_1103 {L : Lo} {S : List Value} {h : Hp} {i : Int32} {b : Nat} : Run 236 1103 L (.int i :: .ref b :: S) h = (gaI h b i).bind fun v => Run 236 1104 L (.int v :: S) h := Rb rfl fun _ => rfl
set_option maxRecDepth 100000 in
theorem e236_1104 {L : Lo} {S : List Value} {h : Hp} {x0 x1 x2 : Option Value} {v : Nat} : Run 236 1104 (x0 :: x1 :: x2 :: some (.ref v) :: L) S h = Run 236 1105 (x0 :: x1 :: x2 :: some (.ref v) :: L) (.ref v :: S) h := Rg rfl
set_option maxRecDepth 100000 in
theorem e236_1105 {L : Lo} {h : Hp} {a5 : Nat} {a4 : Int32} {a3 : Int32} {a2 : Int32} {a1 : Int32} {a0 : Nat} : Run 236 1105 L [.ref a5, .int a4, .int a3, .int a2, .int a1, .ref a0] h = (Run 225 0 [some (.ref a0), some (.int a1), some (.int a2), some (.int a3), some (.int a4), some (.ref a5), none] [] h).bind fun o => aft 236 1105 1108 L [] o := Rc (c := 225) (As := [.ref a0, .int a1, .int a2, .int a3, .int a4, .ref a5]) (S' := []) (pc' := 1108) rfl
set_option maxRecDepth 100000 in
theorem e236_1108 {L : Lo} {S : List Value} {h : Hp} {x0 x1 x2 x3 x4 x5 : Option Value} {y : Option Value} {v : Int32} : Run 236 1108 (x0 :: x1 :: x2 :: x3 :: x4 :: x5 :: y :: L) (.int v :: S) h = Run 236 1110 (x0 :: x1 :: x2 :: x3 :: x4 :: ck x5 :: some (.int v) :: L) S h := Rg rfl
set_option maxRecDepth 100000 in
theorem e236_1110 {L : Lo} {S : List Value} {h : Hp} {x0 x1 : Option Value} {v : Nat} : Run 236 1110 (x0 :: x1 :: some (.ref v) :: L) S h = Run 236 1111 (x0 :: x1 :: some (.ref v) :: L) (.ref v :: S) h := Rg rfl
set_option maxRecDepth 100000 in
theorem e236_1111 {L : Lo} {S : List Value} {h : Hp} {v : Nat} : Run 236 1111 (some (.ref v) :: L) S h = Run 236 1112 (some (.ref v) :: L) (.ref v :: S) h := Rg rfl
set_option maxRecDepth 100000 in
theorem e236_1112 {L : Lo} {S : List Value} {h : Hp} {x0 x1 x2 x3 x4 : Option Value} {v : Int32} : Run 236 1112 (x0 :: x1 :: x2 :: x3 :: x4 :: some (.int v) :: L) S h = Run 236 1114 (x0 :: x1 :: x2 :: x3 :: x4 :: some (.int v) :: L) (.int v :: S) h := Rg rfl
set_option maxRecDepth 100000 in
theorem e236_1114 {L : Lo} {S : List Value} {h : Hp} : Run 236 1114 L S h = Run 236 1115 L (.int 1 :: S) h := Rg rfl
set_option maxRecDepth 100000 in
theorem e236_1115 {L : Lo} {S : List Value} {h : Hp} {x z : Int32} : Run 236 1115 L (.int z :: .int x :: S) h = Run 236 1116 L (.int (x + z) :: S) h := Rg rfl
set_option maxRecDepth 100000 in
theorem e236_1116 {L : Lo} {S : List Value} {h : Hp} {i : Int32} {b : Nat} : Run 236 1116 L (.int i :: .ref b :: S) h = (gaI h b i).bind fun v => Run 236 1117 L (.int v :: S) h := Rb rfl fun _ => rfl
set_option maxRecDepth 100000 in
theorem e236_1117 {L : Lo} {S : List Value} {h : Hp} {v : Nat} : Run 236 1117 (some (.ref v) :: L) S h = Run 236 1118 (some (.ref v) :: L) (.ref v :: S) h := Rg rfl
set_option maxRecDepth 100000 in
theorem e236_1118 {L : Lo} {S : List Value} {h : Hp} {x0 x1 x2 x3 x4 : Option Value} {v : Int32} : Run 236 1118 (x0 :: x1 :: x2 :: x3 :: x4 :: some (.int v) :: L) S h = Run 236 1120 (x0 :: x1 :: x2 :: x3 :: x4 :: some (.int v) :: L) (.int v :: S) h := Rg rfl
set_option maxRecDepth 100000 in
theorem e236_1120 {L : Lo} {S : List Value} {h : Hp} : Run 236 1120 L S h = Run 236 1121 L (.int 2 :: S) h := Rg rfl
set_option maxRecDepth 100000 in
theorem e236_1121 {L : Lo} {S : List Value} {h : Hp} {x z : Int32} : Run 236 1121 L (.int z :: .int x :: S) h = Run 236 1122 L (.int (x + z) :: S) h := Rg rfl
set_option maxRecDepth 100000 in
theorem e236_1122 {L : Lo} {S : List Value} {h : Hp} {i : Int32} {b : Nat} : Run 236 1122 L (.int i :: .ref b :: S) h = (gaI h b i).bind fun v => Run 236 1123 L (.int v :: S) h := Rb rfl fun _ => rfl
set_option maxRecDepth 100000 in
theorem e236_1123 {L : Lo} {S : List Value} {h : Hp} {x : Int32} : Run 236 1123 L (.int x :: S) h = if x = 0 then Run 236 1130 L S h else Run 236 1126 L S h := Rbr (c := cnd .eq x 0 = true) (off := 7) rfl rfl cnd_eq
set_option maxRecDepth 100000 in
theorem e236_1126 {L : Lo} {S : List Value} {h : Hp} : Run 236 1126 L S h = Run 236 1127 L (.int 1 :: S) h := Rg rfl
set_option maxRecDepth 100000 in
theorem e236_1127 {L : Lo} {S : List Value} {h : Hp} : Run 236 1127 L S h = Run 236 1131 L S h := Rg rfl
set_option maxRecDepth 100000 in
theorem e236_1130 {L : Lo} {S : List Value} {h : Hp} : Run 236 1130 L S h = Run 236 1131 L (.int 0 :: S) h := Rg rfl
set_option maxRecDepth 100000 in
theorem e236_1131 {L : Lo} {S : List Value} {h : Hp} {v : Nat} : Run 236 1131 (some (.ref v) :: L) S h = Run 236 1132 (some (.ref v) :: L) (.ref v :: S) h := Rg rfl
set_option maxRecDepth 100000 in
theorem e236_1132 {L : Lo} {S : List Value} {h : Hp} {x0 x1 x2 x3 x4 : Option Value} {v : Int32} : Run 236 1132 (x0 :: x1 :: x2 :: x3 :: x4 :: some (.int v) :: L) S h = Run 236 1134 (x0 :: x1 :: x2 :: x3 :: x4 :: some (.int v) :: L) (.int v :: S) h := Rg rfl
set_option maxRecDepth 100000 in
theorem e236_1134 {L : Lo} {S : List Value} {h : Hp} : Run 236 1134 L S h = Run 236 1135 L (.int 3 :: S) h := Rg rfl
set_option maxRecDepth 100000 in
theorem e236_1135 {L : Lo} {S : List Value} {h : Hp} {x z : Int32} : Run 236 1135 L (.int z :: .int x :: S) h = Run 236 1136 L (.int (x + z) :: S) h := Rg rfl
set_option maxRecDepth 100000 in
theorem e236_1136 {L : Lo} {S : List Value} {h : Hp} {i : Int32} {b : Nat} : Run 236 1136 L (.int i :: .ref b :: S) h = (gaI h b i).bind fun v => Run 236 1137 L (.int v :: S) h := Rb rfl fun _ => rfl
set_option maxRecDepth 100000 in
theorem e236_1137 {L : Lo} {S : List Value} {h : Hp} {v : Nat} : Run 236 1137 (some (.ref v) :: L) S h = Run 236 1138 (some (.ref v) :: L) (.ref v :: S) h := Rg rfl
set_option maxRecDepth 100000 in
theorem e236_1138 {L : Lo} {S : List Value} {h : Hp} {x0 x1 x2 x3 x4 : Option Value} {v : Int32} : Run 236 1138 (x0 :: x1 :: x2 :: x3 :: x4 :: some (.int v) :: L) S h = Run 236 1140 (x0 :: x1 :: x2 :: x3 :: x4 :: some (.int v) :: L) (.int v :: S) h := Rg rfl
set_option maxRecDepth 100000 in
theorem e236_1140 {L : Lo} {S : List Value} {h : Hp} : Run 236 1140 L S h = Run 236 1141 L (.int 4 :: S) h := Rg rfl
set_option maxRecDepth 100000 in
theorem e236_1141 {L : Lo} {S : List Value} {h : Hp} {x z : Int32} : Run 236 1141 L (.int z :: .int x :: S) h = Run 236 1142 L (.int (x + z) :: S) h := Rg rfl
set_option maxRecDepth 100000 in
theorem e236_1142 {L : Lo} {S : List Value} {h : Hp} {i : Int32} {b : Nat} : Run 236 1142 L (.int i :: .ref b :: S) h = (gaI h b i).bind fun v => Run 236 1143 L (.int v :: S) h := Rb rfl fun _ => rfl
set_option maxRecDepth 100000 in
theorem e236_1143 {L : Lo} {h : Hp} {a4 : Int32} {a3 : Int32} {a2 : Int32} {a1 : Int32} {a0 : Nat} (hO : isO h a0 9 = true) : Run 236 1143 L [.int a4, .int a3, .int a2, .int a1, .ref a0] h = (Run 176 0 [some (.ref a0), some (.int a1), some (.int a2), some (.int a3), some (.int a4)] [] h).bind fun o => aft 236 1143 1146 L [] o := Rcv (c := 176) (As := [.int a1, .int a2, .int a3, .int a4]) (S' := []) (pc' := 1146) 9 rfl hO
set_option maxRecDepth 100000 in
theorem e236_1146 {L : Lo} {S : List Value} {h : Hp} {x0 x1 x2 x3 x4 x5 x6 : Option Value} {y : Option Value} {v : Int32} : Run 236 1146 (x0 :: x1 :: x2 :: x3 :: x4 :: x5 :: x6 :: y :: L) (.int v :: S) h = Run 236 1148 (x0 :: x1 :: x2 :: x3 :: x4 :: x5 :: ck x6 :: some (.int v) :: L) S h := Rg rfl
set_option maxRecDepth 100000 in
theorem e236_1148 {L : Lo} {S : List Value} {h : Hp} {x0 x1 : Option Value} {v : Nat} : Run 236 1148 (x0 :: x1 :: some (.ref v) :: L) S h = Run 236 1149 (x0 :: x1 :: some (.ref v) :: L) (.ref v :: S) h := Rg rfl
set_option maxRecDepth 100000 in
theorem e236_1149 {L : Lo} {h : Hp} {a0 : Nat} (hO : isO h a0 9 = true) : Run 236 1149 L [.ref a0] h = (Run 117 0 [some (.ref a0)] [] h).bind fun o => aft 236 1149 1152 L [] o := Rcv (c := 117) (As := []) (S' := []) (pc' := 1152) 9 rfl hO
set_option maxRecDepth 100000 in
theorem e236_1152 {L : Lo} {S : List Value} {h : Hp} {x0 x1 x2 x3 x4 x5 : Option Value} {v : Int32} : Run 236 1152 (x0 :: x1 :: x2 :: x3 :: x4 :: x5 :: some (.int v) :: L) S h = Run 236 1154 (x0 :: x1 :: x2 :: x3 :: x4 :: x5 :: some (.int v) :: L) (.int v :: S) h := Rg rfl
set_option maxRecDepth 100000 in
theorem e236_1154 {L : Lo} {S : List Value} {h : Hp} {x z : Int32} : Run 236 1154 L (.int z :: .int x :: S) h = if x = z then Run 236 1159 L S h else Run 236 1157 L S h := Rbr (c := cnd .eq x z = true) (off := 5) rfl rfl cnd_eq
set_option maxRecDepth 100000 in
theorem e236_1157 {L : Lo} {S : List Value} {h : Hp} : Run 236 1157 L S h = Run 236 1158 L (.int 0 :: S) h := Rg rfl
set_option maxRecDepth 100000 in
theorem e236_1158 {L : Lo} {h : Hp} {x : Int32} (hx : narrow .boolean (.int x) = .int x) : Run 236 1158 L [.int x] h = some (.inl (some (.int x)), h) := Rd (if_pos hx)
set_option maxRecDepth 100000 in
theorem e236_1159 {L : Lo} {S : List Value} {h : Hp} {x0 x1 x2 x3 x4 x5 : Option Value} {v : Int32} : Run 236 1159 (x0 :: x1 :: x2 :: x3 :: x4 :: x5 :: some (.int v) :: L) S h = Run 236 1161 (x0 :: x1 :: x2 :: x3 :: x4 :: x5 :: some (.int v) :: L) (.int v :: S) h := Rg rfl
set_option maxRecDepth 100000 in
theorem e236_1161 {L : Lo} {S : List Value} {h : Hp} {x : Int32} : Run 236 1161 L (.int x :: S) h = if x = 0 then Run 236 1164 L S h else Run 236 1176 L S h := RbrN (c := cnd .ne x 0 = true) (off := 15) rfl rfl cnd_ne
set_option maxRecDepth 100000 in
theorem e236_1164 {L : Lo} {S : List Value} {h : Hp} {x0 x1 x2 : Option Value} {v : Nat} : Run 236 1164 (x0 :: x1 :: x2 :: some (.ref v) :: L) S h = Run 236 1165 (x0 :: x1 :: x2 :: some (.ref v) :: L) (.ref v :: S) h := Rg rfl
set_option maxRecDepth 100000 in
theorem e236_1165 {L : Lo} {S : List Value} {h : Hp} : Run 236 1165 L S h = Run 236 1166 L (.int 0 :: S) h := Rg rfl
set_option maxRecDepth 100000 in
theorem e236_1166 {L : Lo} {S : List Value} {h : Hp} {i : Int32} {b : Nat} : Run 236 1166 L (.int i :: .ref b :: S) h = (gaJ h b i).bind fun v => Run 236 1167 L (.long v :: S) h := Rb rfl fun _ => rfl
set_option maxRecDepth 100000 in
theorem e236_1167 {L : Lo} {S : List Value} {h : Hp} {x0 x1 x2 x3 x4 x5 x6 : Option Value} {v : Int32} : Run 236 1167 (x0 :: x1 :: x2 :: x3 :: x4 :: x5 :: x6 :: some (.int v) :: L) S h = Run 236 1169 (x0 :: x1 :: x2 :: x3 :: x4 :: x5 :: x6 :: some (.int v) :: L) (.int v :: S) h := Rg rfl
set_option maxRecDepth 100000 in
theorem e236_1169 {L : Lo} {S : List Value} {h : Hp} {x : Int32} : Run 236 1169 L (.int x :: S) h = Run 236 1170 L (.long x.toInt64 :: S) h := Rg rfl
set_option maxRecDepth 100000 in
theorem e236_1170 {L : Lo} {S : List Value} {h : Hp} {x z : Int64} : Run 236 1170 L (.long z :: .long x :: S) h = Run 236 1171 L (.int (lg_cmp x z) :: S) h := Rg rfl
set_option maxRecDepth 100000 in
theorem e236_1171 {L : Lo} {S : List Value} {h : Hp} {x : Int32} : Run 236 1171 L (.int x :: S) h = if x = 0 then Run 236 1176 L S h else Run 236 1174 L S h := Rbr (c := cnd .eq x 0 = true) (off := 5) rfl rfl cnd_eq
set_option maxRecDepth 100000 in
theorem e236_1174 {L : Lo} {S : List Value} {h : Hp} : Run 236 1174 L S h = Run 236 1175 L (.int 0 :: S) h := Rg rfl
set_option maxRecDepth 100000 in
theorem e236_1175 {L : Lo} {h : Hp} {x : Int32} (hx : narrow .boolean (.int x) = .int x) : Run 236 1175 L [.int x] h = some (.inl (some (.int x)), h) := Rd (if_pos hx)
set_option maxRecDepth 100000 in
theorem e236_1176 {L : Lo} {S : List Value} {h : Hp} : Run 236 1176 L S h = Run 236 1812 L S h := Rg rfl
set_option maxRecDepth 100000 in
theorem e236_1179 {L : Lo} {S : List Value} {h : Hp} {x0 : Option Value} {v : Nat} : Run 236 1179 (x0 :: some (.ref v) :: L) S h = Run 236 1180 (x0 :: some (.ref v) :: L) (.ref v :: S) h := Rg rfl
set_option maxRecDepth 100000 in
theorem e236_1180 {L : Lo} {S : List Value} {h : Hp} {v : Nat} : Run 236 1180 (some (.ref v) :: L) S h = Run 236 1181 (some (.ref v) :: L) (.ref v :: S) h := Rg rfl
set_option maxRecDepth 100000 in
theorem e236_1181 {L : Lo} {S : List Value} {h : Hp} {x0 x1 x2 x3 x4 : Option Value} {v : Int32} : Run 236 1181 (x0 :: x1 :: x2 :: x3 :: x4 :: some (.int v) :: L) S h = Run 236 1183 (x0 :: x1 :: x2 :: x3 :: x4 :: some (.int v) :: L) (.int v :: S) h := Rg rfl
set_option maxRecDepth 100000 in
theorem e236_1183 {L : Lo} {S : List Value} {h : Hp} : Run 236 1183 L S h = Run 236 1184 L (.int 1 :: S) h := Rg rfl
set_option maxRecDepth 100000 in
theorem e236_1184 {L : Lo} {S : List Value} {h : Hp} {x z : Int32} : Run 236 1184 L (.int z :: .int x :: S) h = Run 236 1185 L (.int (x + z) :: S) h := Rg rfl
set_option maxRecDepth 100000 in
theorem e236_1185 {L : Lo} {S : List Value} {h : Hp} {i : Int32} {b : Nat} : Run 236 1185 L (.int i :: .ref b :: S) h = (gaI h b i).bind fun v => Run 236 1186 L (.int v :: S) h := Rb rfl fun _ => rfl
set_option maxRecDepth 100000 in
theorem e236_1186 {L : Lo} {S : List Value} {h : Hp} {v : Nat} : Run 236 1186 (some (.ref v) :: L) S h = Run 236 1187 (some (.ref v) :: L) (.ref v :: S) h := Rg rfl
set_option maxRecDepth 100000 in
theorem e236_1187 {L : Lo} {S : List Value} {h : Hp} {x0 x1 x2 x3 x4 : Option Value} {v : Int32} : Run 236 1187 (x0 :: x1 :: x2 :: x3 :: x4 :: some (.int v) :: L) S h = Run 236 1189 (x0 :: x1 :: x2 :: x3 :: x4 :: some (.int v) :: L) (.int v :: S) h := Rg rfl
set_option maxRecDepth 100000 in
theorem e236_1189 {L : Lo} {S : List Value} {h : Hp} : Run 236 1189 L S h = Run 236 1190 L (.int 2 :: S) h := Rg rfl
set_option maxRecDepth 100000 in
theorem e236_1190 {L : Lo} {S : List Value} {h : Hp} {x z : Int32} : Run 236 1190 L (.int z :: .int x :: S) h = Run 236 1191 L (.int (x + z) :: S) h := Rg rfl
set_option maxRecDepth 100000 in
theorem e236_1191 {L : Lo} {S : List Value} {h : Hp} {i : Int32} {b : Nat} : Run 236 1191 L (.int i :: .ref b :: S) h = (gaI h b i).bind fun v => Run 236 1192 L (.int v :: S) h := Rb rfl fun _ => rfl
set_option maxRecDepth 100000 in
theorem e236_1192 {L : Lo} {S : List Value} {h : Hp} {x0 x1 x2 : Option Value} {v : Nat} : Run 236 1192 (x0 :: x1 :: x2 :: some (.ref v) :: L) S h = Run 236 1193 (x0 :: x1 :: x2 :: some (.ref v) :: L) (.ref v :: S) h := Rg rfl
set_option maxRecDepth 100000 in
theorem e236_1193 {L : Lo} {h : Hp} {a3 : Nat} {a2 : Int32} {a1 : Int32} {a0 : Nat} : Run 236 1193 L [.ref a3, .int a2, .int a1, .ref a0] h = (Run 226 0 [some (.ref a0), some (.int a1), some (.int a2), some (.ref a3), none] [] h).bind fun o => aft 236 1193 1196 L [] o := Rc (c := 226) (As := [.ref a0, .int a1, .int a2, .ref a3]) (S' := []) (pc' := 1196) rfl
set_option maxRecDepth 100000 in
theorem e236_1196 {L : Lo} {S : List Value} {h : Hp} {x0 x1 x2 x3 x4 x5 : Option Value} {y : Option Value} {v : Int32} : Run 236 1196 (x0 :: x1 :: x2 :: x3 :: x4 :: x5 :: y :: L) (.int v :: S) h = Run 236 1198 (x0 :: x1 :: x2 :: x3 :: x4 :: ck x5 :: some (.int v) :: L) S h := Rg rfl
set_option maxRecDepth 100000 in
theorem e236_1198 {L : Lo} {S : List Value} {h : Hp} {x0 x1 : Option Value} {v : Nat} : Run 236 1198 (x0 :: x1 :: some (.ref v) :: L) S h = Run 236 1199 (x0 :: x1 :: some (.ref v) :: L) (.ref v :: S) h := Rg rfl
set_option maxRecDepth 100000 in
theorem e236_1199 {L : Lo} {S : List Value} {h : Hp} {v : Nat} : Run 236 1199 (some (.ref v) :: L) S h = Run 236 1200 (some (.ref v) :: L) (.ref v :: S) h := Rg rfl
set_option maxRecDepth 100000 in
theorem e236_1200 {L : Lo} {S : List Value} {h : Hp} {x0 x1 x2 x3 x4 : Option Value} {v : Int32} : Run 236 1200 (x0 :: x1 :: x2 :: x3 :: x4 :: some (.int v) :: L) S h = Run 236 1202 (x0 :: x1 :: x2 :: x3 :: x4 :: some (.int v) :: L) (.int v :: S) h := Rg rfl
set_option maxRecDepth 100000 in
theorem e236_1202 {L : Lo} {S : List Value} {h : Hp} : Run 236 1202 L S h = Run 236 1203 L (.int 1 :: S) h := Rg rfl
set_option maxRecDepth 100000 in
theorem e236_1203 {L : Lo} {S : List Value} {h : Hp} {x z : Int32} : Run 236 1203 L (.int z :: .int x :: S) h = Run 236 1204 L (.int (x + z) :: S) h := Rg rfl
set_option maxRecDepth 100000 in
theorem e236_1204 {L : Lo} {S : List Value} {h : Hp} {i : Int32} {b : Nat} : Run 236 1204 L (.int i :: .ref b :: S) h = (gaI h b i).bind fun v => Run 236 1205 L (.int v :: S) h := Rb rfl fun _ => rfl
set_option maxRecDepth 100000 in
theorem e236_1205 {L : Lo} {S : List Value} {h : Hp} {v : Nat} : Run 236 1205 (some (.ref v) :: L) S h = Run 236 1206 (some (.ref v) :: L) (.ref v :: S) h := Rg rfl
set_option maxRecDepth 100000 in
theorem e236_1206 {L : Lo} {S : List Value} {h : Hp} {x0 x1 x2 x3 x4 : Option Value} {v : Int32} : Run 236 1206 (x0 :: x1 :: x2 :: x3 :: x4 :: some (.int v) :: L) S h = Run 236 1208 (x0 :: x1 :: x2 :: x3 :: x4 :: some (.int v) :: L) (.int v :: S) h := Rg rfl
set_option maxRecDepth 100000 in
theorem e236_1208 {L : Lo} {S : List Value} {h : Hp} : Run 236 1208 L S h = Run 236 1209 L (.int 2 :: S) h := Rg rfl
set_option maxRecDepth 100000 in
theorem e236_1209 {L : Lo} {S : List Value} {h : Hp} {x z : Int32} : Run 236 1209 L (.int z :: .int x :: S) h = Run 236 1210 L (.int (x + z) :: S) h := Rg rfl
set_option maxRecDepth 100000 in
theorem e236_1210 {L : Lo} {S : List Value} {h : Hp} {i : Int32} {b : Nat} : Run 236 1210 L (.int i :: .ref b :: S) h = (gaI h b i).bind fun v => Run 236 1211 L (.int v :: S) h := Rb rfl fun _ => rfl
set_option maxRecDepth 100000 in
theorem e236_1211 {L : Lo} {h : Hp} {a2 : Int32} {a1 : Int32} {a0 : Nat} (hO : isO h a0 9 = true) : Run 236 1211 L [.int a2, .int a1, .ref a0] h = (Run 179 0 [some (.ref a0), some (.int a1), some (.int a2)] [] h).bind fun o => aft 236 1211 1214 L [] o := Rcv (c := 179) (As := [.int a1, .int a2]) (S' := []) (pc' := 1214) 9 rfl hO
set_option maxRecDepth 100000 in
theorem e236_1214 {L : Lo} {S : List Value} {h : Hp} {x0 x1 x2 x3 x4 x5 x6 : Option Value} {y : Option Value} {v : Int32} : Run 236 1214 (x0 :: x1 :: x2 :: x3 :: x4 :: x5 :: x6 :: y :: L) (.int v :: S) h = Run 236 1216 (x0 :: x1 :: x2 :: x3 :: x4 :: x5 :: ck x6 :: some (.int v) :: L) S h := Rg rfl
set_option maxRecDepth 100000 in
theorem e236_1216 {L : Lo} {S : List Value} {h : Hp} {x0 x1 : Option Value} {v : Nat} : Run 236 1216 (x0 :: x1 :: some (.ref v) :: L) S h = Run 236 1217 (x0 :: x1 :: some (.ref v) :: L) (.ref v :: S) h := Rg rfl
set_option maxRecDepth 100000 in
theorem e236_1217 {L : Lo} {h : Hp} {a0 : Nat} (hO : isO h a0 9 = true) : Run 236 1217 L [.ref a0] h = (Run 117 0 [some (.ref a0)] [] h).bind fun o => aft 236 1217 1220 L [] o := Rcv (c := 117) (As := []) (S' := []) (pc' := 1220) 9 rfl hO
set_option maxRecDepth 100000 in
theorem e236_1220 {L : Lo} {S : List Value} {h : Hp} {x0 x1 x2 x3 x4 x5 : Option Value} {v : Int32} : Run 236 1220 (x0 :: x1 :: x2 :: x3 :: x4 :: x5 :: some (.int v) :: L) S h = Run 236 1222 (x0 :: x1 :: x2 :: x3 :: x4 :: x5 :: some (.int v) :: L) (.int v :: S) h := Rg rfl
set_option maxRecDepth 100000 in
theorem e236_1222 {L : Lo} {S : List Value} {h : Hp} {x z : Int32} : Run 236 1222 L (.int z :: .int x :: S) h = if x = z then Run 236 1227 L S h else Run 236 1225 L S h := Rbr (c := cnd .eq x z = true) (off := 5) rfl rfl cnd_eq
set_option maxRecDepth 100000 in
theorem e236_1225 {L : Lo} {S : List Value} {h : Hp} : Run 236 1225 L S h = Run 236 1226 L (.int 0 :: S) h := Rg rfl
set_option maxRecDepth 100000 in
theorem e236_1226 {L : Lo} {h : Hp} {x : Int32} (hx : narrow .boolean (.int x) = .int x) : Run 236 1226 L [.int x] h = some (.inl (some (.int x)), h) := Rd (if_pos hx)
set_option maxRecDepth 100000 in
theorem e236_1227 {L : Lo} {S : List Value} {h : Hp} {x0 x1 x2 x3 x4 x5 : Option Value} {v : Int32} : Run 236 1227 (x0 :: x1 :: x2 :: x3 :: x4 :: x5 :: some (.int v) :: L) S h = Run 236 1229 (x0 :: x1 :: x2 :: x3 :: x4 :: x5 :: some (.int v) :: L) (.int v :: S) h := Rg rfl
set_option maxRecDepth 100000 in
theorem e236_1229 {L : Lo} {S : List Value} {h : Hp} {x : Int32} : Run 236 1229 L (.int x :: S) h = if x = 0 then Run 236 1232 L S h else Run 236 1244 L S h := RbrN (c := cnd .ne x 0 = true) (off := 15) rfl rfl cnd_ne
set_option maxRecDepth 100000 in
theorem e236_1232 {L : Lo} {S : List Value} {h : Hp} {x0 x1 x2 : Option Value} {v : Nat} : Run 236 1232 (x0 :: x1 :: x2 :: some (.ref v) :: L) S h = Run 236 1233 (x0 :: x1 :: x2 :: some (.ref v) :: L) (.ref v :: S) h := Rg rfl
set_option maxRecDepth 100000 in
theorem e236_1233 {L : Lo} {S : List Value} {h : Hp} : Run 236 1233 L S h = Run 236 1234 L (.int 0 :: S) h := Rg rfl
set_option maxRecDepth 100000 in
theorem e236_1234 {L : Lo} {S : List Value} {h : Hp} {i : Int32} {b : Nat} : Run 236 1234 L (.int i :: .ref b :: S) h = (gaJ h b i).bind fun v => Run 236 1235 L (.long v :: S) h := Rb rfl fun _ => rfl
set_option maxRecDepth 100000 in
theorem e236_1235 {L : Lo} {S : List Value} {h : Hp} {x0 x1 x2 x3 x4 x5 x6 : Option Value} {v : Int32} : Run 236 1235 (x0 :: x1 :: x2 :: x3 :: x4 :: x5 :: x6 :: some (.int v) :: L) S h = Run 236 1237 (x0 :: x1 :: x2 :: x3 :: x4 :: x5 :: x6 :: some (.int v) :: L) (.int v :: S) h := Rg rfl
set_option maxRecDepth 100000 in
theorem e236_1237 {L : Lo} {S : List Value} {h : Hp} {x : Int32} : Run 236 1237 L (.int x :: S) h = Run 236 1238 L (.long x.toInt64 :: S) h := Rg rfl
set_option maxRecDepth 100000 in
theorem e236_1238 {L : Lo} {S : List Value} {h : Hp} {x z : Int64} : Run 236 1238 L (.long z :: .long x :: S) h = Run 236 1239 L (.int (lg_cmp x z) :: S) h := Rg rfl
set_option maxRecDepth 100000 in
theorem e236_1239 {L : Lo} {S : List Value} {h : Hp} {x : Int32} : Run 236 1239 L (.int x :: S) h = if x = 0 then Run 236 1244 L S h else Run 236 1242 L S h := Rbr (c := cnd .eq x 0 = true) (off := 5) rfl rfl cnd_eq
set_option maxRecDepth 100000 in
theorem e236_1242 {L : Lo} {S : List Value} {h : Hp} : Run 236 1242 L S h = Run 236 1243 L (.int 0 :: S) h := Rg rfl
set_option maxRecDepth 100000 in
theorem e236_1243 {L : Lo} {h : Hp} {x : Int32} (hx : narrow .boolean (.int x) = .int x) : Run 236 1243 L [.int x] h = some (.inl (some (.int x)), h) := Rd (if_pos hx)
set_option maxRecDepth 100000 in
theorem e236_1244 {L : Lo} {S : List Value} {h : Hp} : Run 236 1244 L S h = Run 236 1812 L S h := Rg rfl
set_option maxRecDepth 100000 in
theorem e236_1247 {L : Lo} {S : List Value} {h : Hp} {x0 : Option Value} {v : Nat} : Run 236 1247 (x0 :: some (.ref v) :: L) S h = Run 236 1248 (x0 :: some (.ref v) :: L) (.ref v :: S) h := Rg rfl
set_option maxRecDepth 100000 in
theorem e236_1248 {L : Lo} {S : List Value} {h : Hp} {v : Nat} : Run 236 1248 (some (.ref v) :: L) S h = Run 236 1249 (some (.ref v) :: L) (.ref v :: S) h := Rg rfl
set_option maxRecDepth 100000 in
theorem e236_1249 {L : Lo} {S : List Value} {h : Hp} {x0 x1 x2 x3 x4 : Option Value} {v : Int32} : Run 236 1249 (x0 :: x1 :: x2 :: x3 :: x4 :: some (.int v) :: L) S h = Run 236 1251 (x0 :: x1 :: x2 :: x3 :: x4 :: some (.int v) :: L) (.int v :: S) h := Rg rfl
set_option maxRecDepth 100000 in
theorem e236_1251 {L : Lo} {S : List Value} {h : Hp} : Run 236 1251 L S h = Run 236 1252 L (.int 1 :: S) h := Rg rfl
set_option maxRecDepth 100000 in
theorem e236_1252 {L : Lo} {S : List Value} {h : Hp} {x z : Int32} : Run 236 1252 L (.int z :: .int x :: S) h = Run 236 1253 L (.int (x + z) :: S) h := Rg rfl
set_option maxRecDepth 100000 in
theorem e236_1253 {L : Lo} {S : List Value} {h : Hp} {i : Int32} {b : Nat} : Run 236 1253 L (.int i :: .ref b :: S) h = (gaI h b i).bind fun v => Run 236 1254 L (.int v :: S) h := Rb rfl fun _ => rfl
set_option maxRecDepth 100000 in
theorem e236_1254 {L : Lo} {S : List Value} {h : Hp} {x0 x1 x2 : Option Value} {v : Nat} : Run 236 1254 (x0 :: x1 :: x2 :: some (.ref v) :: L) S h = Run 236 1255 (x0 :: x1 :: x2 :: some (.ref v) :: L) (.ref v :: S) h := Rg rfl
set_option maxRecDepth 100000 in
theorem e236_1255 {L : Lo} {h : Hp} {a2 : Nat} {a1 : Int32} {a0 : Nat} : Run 236 1255 L [.ref a2, .int a1, .ref a0] h = (Run 227 0 [some (.ref a0), some (.int a1), some (.ref a2), none] [] h).bind fun o => aft 236 1255 1258 L [] o := Rc (c := 227) (As := [.ref a0, .int a1, .ref a2]) (S' := []) (pc' := 1258) rfl
set_option maxRecDepth 100000 in
theorem e236_1258 {L : Lo} {S : List Value} {h : Hp} {x0 x1 x2 x3 x4 x5 : Option Value} {y : Option Value} {v : Int32} : Run 236 1258 (x0 :: x1 :: x2 :: x3 :: x4 :: x5 :: y :: L) (.int v :: S) h = Run 236 1260 (x0 :: x1 :: x2 :: x3 :: x4 :: ck x5 :: some (.int v) :: L) S h := Rg rfl
set_option maxRecDepth 100000 in
theorem e236_1260 {L : Lo} {S : List Value} {h : Hp} {x0 x1 : Option Value} {v : Nat} : Run 236 1260 (x0 :: x1 :: some (.ref v) :: L) S h = Run 236 1261 (x0 :: x1 :: some (.ref v) :: L) (.ref v :: S) h := Rg rfl
set_option maxRecDepth 100000 in
theorem e236_1261 {L : Lo} {S : List Value} {h : Hp} {v : Nat} : Run 236 1261 (some (.ref v) :: L) S h = Run 236 1262 (some (.ref v) :: L) (.ref v :: S) h := Rg rfl
set_option maxRecDepth 100000 in
theorem e236_1262 {L : Lo} {S : List Value} {h : Hp} {x0 x1 x2 x3 x4 : Option Value} {v : Int32} : Run 236 1262 (x0 :: x1 :: x2 :: x3 :: x4 :: some (.int v) :: L) S h = Run 236 1264 (x0 :: x1 :: x2 :: x3 :: x4 :: some (.int v) :: L) (.int v :: S) h := Rg rfl
set_option maxRecDepth 100000 in
theorem e236_1264 {L : Lo} {S : List Value} {h : Hp} : Run 236 1264 L S h = Run 236 1265 L (.int 1 :: S) h := Rg rfl
set_option maxRecDepth 100000 in
theorem e236_1265 {L : Lo} {S : List Value} {h : Hp} {x z : Int32} : Run 236 1265 L (.int z :: .int x :: S) h = Run 236 1266 L (.int (x + z) :: S) h := Rg rfl
set_option maxRecDepth 100000 in
theorem e236_1266 {L : Lo} {S : List Value} {h : Hp} {i : Int32} {b : Nat} : Run 236 1266 L (.int i :: .ref b :: S) h = (gaI h b i).bind fun v => Run 236 1267 L (.int v :: S) h := Rb rfl fun _ => rfl
set_option maxRecDepth 100000 in
theorem e236_1267 {L : Lo} {h : Hp} {a1 : Int32} {a0 : Nat} (hO : isO h a0 9 = true) : Run 236 1267 L [.int a1, .ref a0] h = (Run 180 0 [some (.ref a0), some (.int a1), none] [] h).bind fun o => aft 236 1267 1270 L [] o := Rcv (c := 180) (As := [.int a1]) (S' := []) (pc' := 1270) 9 rfl hO
set_option maxRecDepth 100000 in
theorem e236_1270 {L : Lo} {S : List Value} {h : Hp} {x0 x1 x2 x3 x4 x5 x6 : Option Value} {y : Option Value} {v : Int32} : Run 236 1270 (x0 :: x1 :: x2 :: x3 :: x4 :: x5 :: x6 :: y :: L) (.int v :: S) h = Run 236 1272 (x0 :: x1 :: x2 :: x3 :: x4 :: x5 :: ck x6 :: some (.int v) :: L) S h := Rg rfl
set_option maxRecDepth 100000 in
theorem e236_1272 {L : Lo} {S : List Value} {h : Hp} {x0 x1 : Option Value} {v : Nat} : Run 236 1272 (x0 :: x1 :: some (.ref v) :: L) S h = Run 236 1273 (x0 :: x1 :: some (.ref v) :: L) (.ref v :: S) h := Rg rfl
set_option maxRecDepth 100000 in
theorem e236_1273 {L : Lo} {h : Hp} {a0 : Nat} (hO : isO h a0 9 = true) : Run 236 1273 L [.ref a0] h = (Run 117 0 [some (.ref a0)] [] h).bind fun o => aft 236 1273 1276 L [] o := Rcv (c := 117) (As := []) (S' := []) (pc' := 1276) 9 rfl hO
set_option maxRecDepth 100000 in
theorem e236_1276 {L : Lo} {S : List Value} {h : Hp} {x0 x1 x2 x3 x4 x5 : Option Value} {v : Int32} : Run 236 1276 (x0 :: x1 :: x2 :: x3 :: x4 :: x5 :: some (.int v) :: L) S h = Run 236 1278 (x0 :: x1 :: x2 :: x3 :: x4 :: x5 :: some (.int v) :: L) (.int v :: S) h := Rg rfl
set_option maxRecDepth 100000 in
theorem e236_1278 {L : Lo} {S : List Value} {h : Hp} {x z : Int32} : Run 236 1278 L (.int z :: .int x :: S) h = if x = z then Run 236 1283 L S h else Run 236 1281 L S h := Rbr (c := cnd .eq x z = true) (off := 5) rfl rfl cnd_eq
set_option maxRecDepth 100000 in
theorem e236_1281 {L : Lo} {S : List Value} {h : Hp} : Run 236 1281 L S h = Run 236 1282 L (.int 0 :: S) h := Rg rfl
set_option maxRecDepth 100000 in
theorem e236_1282 {L : Lo} {h : Hp} {x : Int32} (hx : narrow .boolean (.int x) = .int x) : Run 236 1282 L [.int x] h = some (.inl (some (.int x)), h) := Rd (if_pos hx)
set_option maxRecDepth 100000 in
theorem e236_1283 {L : Lo} {S : List Value} {h : Hp} {x0 x1 x2 x3 x4 x5 : Option Value} {v : Int32} : Run 236 1283 (x0 :: x1 :: x2 :: x3 :: x4 :: x5 :: some (.int v) :: L) S h = Run 236 1285 (x0 :: x1 :: x2 :: x3 :: x4 :: x5 :: some (.int v) :: L) (.int v :: S) h := Rg rfl
set_option maxRecDepth 100000 in
theorem e236_1285 {L : Lo} {S : List Value} {h : Hp} {x : Int32} : Run 236 1285 L (.int x :: S) h = if x = 0 then Run 236 1288 L S h else Run 236 1300 L S h := RbrN (c := cnd .ne x 0 = true) (off := 15) rfl rfl cnd_ne
set_option maxRecDepth 100000 in
theorem e236_1288 {L : Lo} {S : List Value} {h : Hp} {x0 x1 x2 : Option Value} {v : Nat} : Run 236 1288 (x0 :: x1 :: x2 :: some (.ref v) :: L) S h = Run 236 1289 (x0 :: x1 :: x2 :: some (.ref v) :: L) (.ref v :: S) h := Rg rfl
set_option maxRecDepth 100000 in
theorem e236_1289 {L : Lo} {S : List Value} {h : Hp} : Run 236 1289 L S h = Run 236 1290 L (.int 0 :: S) h := Rg rfl
set_option maxRecDepth 100000 in
theorem e236_1290 {L : Lo} {S : List Value} {h : Hp} {i : Int32} {b : Nat} : Run 236 1290 L (.int i :: .ref b :: S) h = (gaJ h b i).bind fun v => Run 236 1291 L (.long v :: S) h := Rb rfl fun _ => rfl
set_option maxRecDepth 100000 in
theorem e236_1291 {L : Lo} {S : List Value} {h : Hp} {x0 x1 x2 x3 x4 x5 x6 : Option Value} {v : Int32} : Run 236 1291 (x0 :: x1 :: x2 :: x3 :: x4 :: x5 :: x6 :: some (.int v) :: L) S h = Run 236 1293 (x0 :: x1 :: x2 :: x3 :: x4 :: x5 :: x6 :: some (.int v) :: L) (.int v :: S) h := Rg rfl
set_option maxRecDepth 100000 in
theorem e236_1293 {L : Lo} {S : List Value} {h : Hp} {x : Int32} : Run 236 1293 L (.int x :: S) h = Run 236 1294 L (.long x.toInt64 :: S) h := Rg rfl
set_option maxRecDepth 100000 in
theorem e236_1294 {L : Lo} {S : List Value} {h : Hp} {x z : Int64} : Run 236 1294 L (.long z :: .long x :: S) h = Run 236 1295 L (.int (lg_cmp x z) :: S) h := Rg rfl
set_option maxRecDepth 100000 in
theorem e236_1295 {L : Lo} {S : List Value} {h : Hp} {x : Int32} : Run 236 1295 L (.int x :: S) h = if x = 0 then Run 236 1300 L S h else Run 236 1298 L S h := Rbr (c := cnd .eq x 0 = true) (off := 5) rfl rfl cnd_eq
set_option maxRecDepth 100000 in
theorem e236_1298 {L : Lo} {S : List Value} {h : Hp} : Run 236 1298 L S h = Run 236 1299 L (.int 0 :: S) h := Rg rfl
set_option maxRecDepth 100000 in
theorem e236_1299 {L : Lo} {h : Hp} {x : Int32} (hx : narrow .boolean (.int x) = .int x) : Run 236 1299 L [.int x] h = some (.inl (some (.int x)), h) := Rd (if_pos hx)
set_option maxRecDepth 100000 in
theorem e236_1300 {L : Lo} {S : List Value} {h : Hp} : Run 236 1300 L S h = Run 236 1812 L S h := Rg rfl
set_option maxRecDepth 100000 in
theorem e236_1303 {L : Lo} {S : List Value} {h : Hp} {x0 : Option Value} {v : Nat} : Run 236 1303 (x0 :: some (.ref v) :: L) S h = Run 236 1304 (x0 :: some (.ref v) :: L) (.ref v :: S) h := Rg rfl
set_option maxRecDepth 100000 in
theorem e236_1304 {L : Lo} {S : List Value} {h : Hp} {v : Nat} : Run 236 1304 (some (.ref v) :: L) S h = Run 236 1305 (some (.ref v) :: L) (.ref v :: S) h := Rg rfl
set_option maxRecDepth 100000 in
theorem e236_1305 {L : Lo} {S : List Value} {h : Hp} {x0 x1 x2 x3 x4 : Option Value} {v : Int32} : Run 236 1305 (x0 :: x1 :: x2 :: x3 :: x4 :: some (.int v) :: L) S h = Run 236 1307 (x0 :: x1 :: x2 :: x3 :: x4 :: some (.int v) :: L) (.int v :: S) h := Rg rfl
set_option maxRecDepth 100000 in
theorem e236_1307 {L : Lo} {S : List Value} {h : Hp} : Run 236 1307 L S h = Run 236 1308 L (.int 1 :: S) h := Rg rfl
set_option maxRecDepth 100000 in
theorem e236_1308 {L : Lo} {S : List Value} {h : Hp} {x z : Int32} : Run 236 1308 L (.int z :: .int x :: S) h = Run 236 1309 L (.int (x + z) :: S) h := Rg rfl
set_option maxRecDepth 100000 in
theorem e236_1309 {L : Lo} {S : List Value} {h : Hp} {i : Int32} {b : Nat} : Run 236 1309 L (.int i :: .ref b :: S) h = (gaI h b i).bind fun v => Run 236 1310 L (.int v :: S) h := Rb rfl fun _ => rfl
set_option maxRecDepth 100000 in
theorem e236_1310 {L : Lo} {S : List Value} {h : Hp} {x0 x1 x2 : Option Value} {v : Nat} : Run 236 1310 (x0 :: x1 :: x2 :: some (.ref v) :: L) S h = Run 236 1311 (x0 :: x1 :: x2 :: some (.ref v) :: L) (.ref v :: S) h := Rg rfl
set_option maxRecDepth 100000 in
theorem e236_1311 {L : Lo} {h : Hp} {a2 : Nat} {a1 : Int32} {a0 : Nat} : Run 236 1311 L [.ref a2, .int a1, .ref a0] h = (Run 228 0 [some (.ref a0), some (.int a1), some (.ref a2), none] [] h).bind fun o => aft 236 1311 1314 L [] o := Rc (c := 228) (As := [.ref a0, .int a1, .ref a2]) (S' := []) (pc' := 1314) rfl
set_option maxRecDepth 100000 in
theorem e236_1314 {L : Lo} {S : List Value} {h : Hp} {x0 x1 x2 x3 x4 x5 : Option Value} {y : Option Value} {v : Int32} : Run 236 1314 (x0 :: x1 :: x2 :: x3 :: x4 :: x5 :: y :: L) (.int v :: S) h = Run 236 1316 (x0 :: x1 :: x2 :: x3 :: x4 :: ck x5 :: some (.int v) :: L) S h := Rg rfl
set_option maxRecDepth 100000 in
theorem e236_1316 {L : Lo} {S : List Value} {h : Hp} {x0 x1 : Option Value} {v : Nat} : Run 236 1316 (x0 :: x1 :: some (.ref v) :: L) S h = Run 236 1317 (x0 :: x1 :: some (.ref v) :: L) (.ref v :: S) h := Rg rfl
set_option maxRecDepth 100000 in
theorem e236_1317 {L : Lo} {S : List Value} {h : Hp} {v : Nat} : Run 236 1317 (some (.ref v) :: L) S h = Run 236 1318 (some (.ref v) :: L) (.ref v :: S) h := Rg rfl
set_option maxRecDepth 100000 in
theorem e236_1318 {L : Lo} {S : List Value} {h : Hp} {x0 x1 x2 x3 x4 : Option Value} {v : Int32} : Run 236 1318 (x0 :: x1 :: x2 :: x3 :: x4 :: some (.int v) :: L) S h = Run 236 1320 (x0 :: x1 :: x2 :: x3 :: x4 :: some (.int v) :: L) (.int v :: S) h := Rg rfl
set_option maxRecDepth 100000 in
theorem e236_1320 {L : Lo} {S : List Value} {h : Hp} : Run 236 1320 L S h = Run 236 1321 L (.int 1 :: S) h := Rg rfl
set_option maxRecDepth 100000 in
theorem e236_1321 {L : Lo} {S : List Value} {h : Hp} {x z : Int32} : Run 236 1321 L (.int z :: .int x :: S) h = Run 236 1322 L (.int (x + z) :: S) h := Rg rfl
set_option maxRecDepth 100000 in
theorem e236_1322 {L : Lo} {S : List Value} {h : Hp} {i : Int32} {b : Nat} : Run 236 1322 L (.int i :: .ref b :: S) h = (gaI h b i).bind fun v => Run 236 1323 L (.int v :: S) h := Rb rfl fun _ => rfl
set_option maxRecDepth 100000 in
theorem e236_1323 {L : Lo} {h : Hp} {a1 : Int32} {a0 : Nat} (hO : isO h a0 9 = true) : Run 236 1323 L [.int a1, .ref a0] h = (Run 182 0 [some (.ref a0), some (.int a1)] [] h).bind fun o => aft 236 1323 1326 L [] o := Rcv (c := 182) (As := [.int a1]) (S' := []) (pc' := 1326) 9 rfl hO
set_option maxRecDepth 100000 in
theorem e236_1326 {L : Lo} {S : List Value} {h : Hp} {x0 x1 x2 x3 x4 x5 x6 : Option Value} {y : Option Value} {v : Int32} : Run 236 1326 (x0 :: x1 :: x2 :: x3 :: x4 :: x5 :: x6 :: y :: L) (.int v :: S) h = Run 236 1328 (x0 :: x1 :: x2 :: x3 :: x4 :: x5 :: ck x6 :: some (.int v) :: L) S h := Rg rfl
set_option maxRecDepth 100000 in
theorem e236_1328 {L : Lo} {S : List Value} {h : Hp} {x0 x1 : Option Value} {v : Nat} : Run 236 1328 (x0 :: x1 :: some (.ref v) :: L) S h = Run 236 1329 (x0 :: x1 :: some (.ref v) :: L) (.ref v :: S) h := Rg rfl
set_option maxRecDepth 100000 in
theorem e236_1329 {L : Lo} {h : Hp} {a0 : Nat} (hO : isO h a0 9 = true) : Run 236 1329 L [.ref a0] h = (Run 117 0 [some (.ref a0)] [] h).bind fun o => aft 236 1329 1332 L [] o := Rcv (c := 117) (As := []) (S' := []) (pc' := 1332) 9 rfl hO
set_option maxRecDepth 100000 in
theorem e236_1332 {L : Lo} {S : List Value} {h : Hp} {x0 x1 x2 x3 x4 x5 : Option Value} {v : Int32} : Run 236 1332 (x0 :: x1 :: x2 :: x3 :: x4 :: x5 :: some (.int v) :: L) S h = Run 236 1334 (x0 :: x1 :: x2 :: x3 :: x4 :: x5 :: some (.int v) :: L) (.int v :: S) h := Rg rfl
set_option maxRecDepth 100000 in
theorem e236_1334 {L : Lo} {S : List Value} {h : Hp} {x z : Int32} : Run 236 1334 L (.int z :: .int x :: S) h = if x = z then Run 236 1339 L S h else Run 236 1337 L S h := Rbr (c := cnd .eq x z = true) (off := 5) rfl rfl cnd_eq
set_option maxRecDepth 100000 in
theorem e236_1337 {L : Lo} {S : List Value} {h : Hp} : Run 236 1337 L S h = Run 236 1338 L (.int 0 :: S) h := Rg rfl
set_option maxRecDepth 100000 in
theorem e236_1338 {L : Lo} {h : Hp} {x : Int32} (hx : narrow .boolean (.int x) = .int x) : Run 236 1338 L [.int x] h = some (.inl (some (.int x)), h) := Rd (if_pos hx)
set_option maxRecDepth 100000 in
theorem e236_1339 {L : Lo} {S : List Value} {h : Hp} {x0 x1 x2 x3 x4 x5 : Option Value} {v : Int32} : Run 236 1339 (x0 :: x1 :: x2 :: x3 :: x4 :: x5 :: some (.int v) :: L) S h = Run 236 1341 (x0 :: x1 :: x2 :: x3 :: x4 :: x5 :: some (.int v) :: L) (.int v :: S) h := Rg rfl
set_option maxRecDepth 100000 in
theorem e236_1341 {L : Lo} {S : List Value} {h : Hp} {x : Int32} : Run 236 1341 L (.int x :: S) h = if x = 0 then Run 236 1344 L S h else Run 236 1356 L S h := RbrN (c := cnd .ne x 0 = true) (off := 15) rfl rfl cnd_ne
set_option maxRecDepth 100000 in
theorem e236_1344 {L : Lo} {S : List Value} {h : Hp} {x0 x1 x2 : Option Value} {v : Nat} : Run 236 1344 (x0 :: x1 :: x2 :: some (.ref v) :: L) S h = Run 236 1345 (x0 :: x1 :: x2 :: some (.ref v) :: L) (.ref v :: S) h := Rg rfl
set_option maxRecDepth 100000 in
theorem e236_1345 {L : Lo} {S : List Value} {h : Hp} : Run 236 1345 L S h = Run 236 1346 L (.int 0 :: S) h := Rg rfl
set_option maxRecDepth 100000 in
theorem e236_1346 {L : Lo} {S : List Value} {h : Hp} {i : Int32} {b : Nat} : Run 236 1346 L (.int i :: .ref b :: S) h = (gaJ h b i).bind fun v => Run 236 1347 L (.long v :: S) h := Rb rfl fun _ => rfl
set_option maxRecDepth 100000 in
theorem e236_1347 {L : Lo} {S : List Value} {h : Hp} {x0 x1 x2 x3 x4 x5 x6 : Option Value} {v : Int32} : Run 236 1347 (x0 :: x1 :: x2 :: x3 :: x4 :: x5 :: x6 :: some (.int v) :: L) S h = Run 236 1349 (x0 :: x1 :: x2 :: x3 :: x4 :: x5 :: x6 :: some (.int v) :: L) (.int v :: S) h := Rg rfl
set_option maxRecDepth 100000 in
theorem e236_1349 {L : Lo} {S : List Value} {h : Hp} {x : Int32} : Run 236 1349 L (.int x :: S) h = Run 236 1350 L (.long x.toInt64 :: S) h := Rg rfl
set_option maxRecDepth 100000 in
theorem e236_1350 {L : Lo} {S : List Value} {h : Hp} {x z : Int64} : Run 236 1350 L (.long z :: .long x :: S) h = Run 236 1351 L (.int (lg_cmp x z) :: S) h := Rg rfl
set_option maxRecDepth 100000 in
theorem e236_1351 {L : Lo} {S : List Value} {h : Hp} {x : Int32} : Run 236 1351 L (.int x :: S) h = if x = 0 then Run 236 1356 L S h else Run 236 1354 L S h := Rbr (c := cnd .eq x 0 = true) (off := 5) rfl rfl cnd_eq
set_option maxRecDepth 100000 in
theorem e236_1354 {L : Lo} {S : List Value} {h : Hp} : Run 236 1354 L S h = Run 236 1355 L (.int 0 :: S) h := Rg rfl
set_option maxRecDepth 100000 in
theorem e236_1355 {L : Lo} {h : Hp} {x : Int32} (hx : narrow .boolean (.int x) = .int x) : Run 236 1355 L [.int x] h = some (.inl (some (.int x)), h) := Rd (if_pos hx)
set_option maxRecDepth 100000 in
theorem e236_1356 {L : Lo} {S : List Value} {h : Hp} : Run 236 1356 L S h = Run 236 1812 L S h := Rg rfl
set_option maxRecDepth 100000 in
theorem e236_1359 {L : Lo} {S : List Value} {h : Hp} {x0 : Option Value} {v : Nat} : Run 236 1359 (x0 :: some (.ref v) :: L) S h = Run 236 1360 (x0 :: some (.ref v) :: L) (.ref v :: S) h := Rg rfl
set_option maxRecDepth 100000 in
theorem e236_1360 {L : Lo} {S : List Value} {h : Hp} {v : Nat} : Run 236 1360 (some (.ref v) :: L) S h = Run 236 1361 (some (.ref v) :: L) (.ref v :: S) h := Rg rfl
set_option maxRecDepth 100000 in
theorem e236_1361 {L : Lo} {S : List Value} {h : Hp} {x0 x1 x2 x3 x4 : Option Value} {v : Int32} : Run 236 1361 (x0 :: x1 :: x2 :: x3 :: x4 :: some (.int v) :: L) S h = Run 236 1363 (x0 :: x1 :: x2 :: x3 :: x4 :: some (.int v) :: L) (.int v :: S) h := Rg rfl
set_option maxRecDepth 100000 in
theorem e236_1363 {L : Lo} {S : List Value} {h : Hp} : Run 236 1363 L S h = Run 236 1364 L (.int 1 :: S) h := Rg rfl
set_option maxRecDepth 100000 in
theorem e236_1364 {L : Lo} {S : List Value} {h : Hp} {x z : Int32} : Run 236 1364 L (.int z :: .int x :: S) h = Run 236 1365 L (.int (x + z) :: S) h := Rg rfl
set_option maxRecDepth 100000 in
theorem e236_1365 {L : Lo} {S : List Value} {h : Hp} {i : Int32} {b : Nat} : Run 236 1365 L (.int i :: .ref b :: S) h = (gaI h b i).bind fun v => Run 236 1366 L (.int v :: S) h := Rb rfl fun _ => rfl
set_option maxRecDepth 100000 in
theorem e236_1366 {L : Lo} {S : List Value} {h : Hp} {x0 x1 x2 : Option Value} {v : Nat} : Run 236 1366 (x0 :: x1 :: x2 :: some (.ref v) :: L) S h = Run 236 1367 (x0 :: x1 :: x2 :: some (.ref v) :: L) (.ref v :: S) h := Rg rfl
set_option maxRecDepth 100000 in
theorem e236_1367 {L : Lo} {h : Hp} {a2 : Nat} {a1 : Int32} {a0 : Nat} : Run 236 1367 L [.ref a2, .int a1, .ref a0] h = (Run 229 0 [some (.ref a0), some (.int a1), some (.ref a2), none] [] h).bind fun o => aft 236 1367 1370 L [] o := Rc (c := 229) (As := [.ref a0, .int a1, .ref a2]) (S' := []) (pc' := 1370) rfl
set_option maxRecDepth 100000 in
theorem e236_1370 {L : Lo} {S : List Value} {h : Hp} {x0 x1 x2 x3 x4 x5 : Option Value} {y : Option Value} {v : Int32} : Run 236 1370 (x0 :: x1 :: x2 :: x3 :: x4 :: x5 :: y :: L) (.int v :: S) h = Run 236 1372 (x0 :: x1 :: x2 :: x3 :: x4 :: ck x5 :: some (.int v) :: L) S h := Rg rfl
set_option maxRecDepth 100000 in
theorem e236_1372 {L : Lo} {S : List Value} {h : Hp} {x0 x1 : Option Value} {v : Nat} : Run 236 1372 (x0 :: x1 :: some (.ref v) :: L) S h = Run 236 1373 (x0 :: x1 :: some (.ref v) :: L) (.ref v :: S) h := Rg rfl
set_option maxRecDepth 100000 in
theorem e236_1373 {L : Lo} {S : List Value} {h : Hp} {v : Nat} : Run 236 1373 (some (.ref v) :: L) S h = Run 236 1374 (some (.ref v) :: L) (.ref v :: S) h := Rg rfl
set_option maxRecDepth 100000 in
theorem e236_1374 {L : Lo} {S : List Value} {h : Hp} {x0 x1 x2 x3 x4 : Option Value} {v : Int32} : Run 236 1374 (x0 :: x1 :: x2 :: x3 :: x4 :: some (.int v) :: L) S h = Run 236 1376 (x0 :: x1 :: x2 :: x3 :: x4 :: some (.int v) :: L) (.int v :: S) h := Rg rfl
set_option maxRecDepth 100000 in
theorem e236_1376 {L : Lo} {S : List Value} {h : Hp} : Run 236 1376 L S h = Run 236 1377 L (.int 1 :: S) h := Rg rfl
set_option maxRecDepth 100000 in
theorem e236_1377 {L : Lo} {S : List Value} {h : Hp} {x z : Int32} : Run 236 1377 L (.int z :: .int x :: S) h = Run 236 1378 L (.int (x + z) :: S) h := Rg rfl
set_option maxRecDepth 100000 in
theorem e236_1378 {L : Lo} {S : List Value} {h : Hp} {i : Int32} {b : Nat} : Run 236 1378 L (.int i :: .ref b :: S) h = (gaI h b i).bind fun v => Run 236 1379 L (.int v :: S) h := Rb rfl fun _ => rfl
set_option maxRecDepth 100000 in
theorem e236_1379 {L : Lo} {h : Hp} {a1 : Int32} {a0 : Nat} (hO : isO h a0 9 = true) : Run 236 1379 L [.int a1, .ref a0] h = (Run 190 0 [some (.ref a0), some (.int a1)] [] h).bind fun o => aft 236 1379 1382 L [] o := Rcv (c := 190) (As := [.int a1]) (S' := []) (pc' := 1382) 9 rfl hO
set_option maxRecDepth 100000 in
theorem e236_1382 {L : Lo} {S : List Value} {h : Hp} {x0 x1 x2 x3 x4 x5 x6 : Option Value} {y : Option Value} {v : Int32} : Run 236 1382 (x0 :: x1 :: x2 :: x3 :: x4 :: x5 :: x6 :: y :: L) (.int v :: S) h = Run 236 1384 (x0 :: x1 :: x2 :: x3 :: x4 :: x5 :: ck x6 :: some (.int v) :: L) S h := Rg rfl
set_option maxRecDepth 100000 in
theorem e236_1384 {L : Lo} {S : List Value} {h : Hp} {x0 x1 : Option Value} {v : Nat} : Run 236 1384 (x0 :: x1 :: some (.ref v) :: L) S h = Run 236 1385 (x0 :: x1 :: some (.ref v) :: L) (.ref v :: S) h := Rg rfl
set_option maxRecDepth 100000 in
theorem e236_1385 {L : Lo} {h : Hp} {a0 : Nat} (hO : isO h a0 9 = true) : Run 236 1385 L [.ref a0] h = (Run 117 0 [some (.ref a0)] [] h).bind fun o => aft 236 1385 1388 L [] o := Rcv (c := 117) (As := []) (S' := []) (pc' := 1388) 9 rfl hO
set_option maxRecDepth 100000 in
theorem e236_1388 {L : Lo} {S : List Value} {h : Hp} {x0 x1 x2 x3 x4 x5 : Option Value} {v : Int32} : Run 236 1388 (x0 :: x1 :: x2 :: x3 :: x4 :: x5 :: some (.int v) :: L) S h = Run 236 1390 (x0 :: x1 :: x2 :: x3 :: x4 :: x5 :: some (.int v) :: L) (.int v :: S) h := Rg rfl
set_option maxRecDepth 100000 in
theorem e236_1390 {L : Lo} {S : List Value} {h : Hp} {x z : Int32} : Run 236 1390 L (.int z :: .int x :: S) h = if x = z then Run 236 1395 L S h else Run 236 1393 L S h := Rbr (c := cnd .eq x z = true) (off := 5) rfl rfl cnd_eq
set_option maxRecDepth 100000 in
theorem e236_1393 {L : Lo} {S : List Value} {h : Hp} : Run 236 1393 L S h = Run 236 1394 L (.int 0 :: S) h := Rg rfl
set_option maxRecDepth 100000 in
theorem e236_1394 {L : Lo} {h : Hp} {x : Int32} (hx : narrow .boolean (.int x) = .int x) : Run 236 1394 L [.int x] h = some (.inl (some (.int x)), h) := Rd (if_pos hx)
set_option maxRecDepth 100000 in
theorem e236_1395 {L : Lo} {S : List Value} {h : Hp} {x0 x1 x2 x3 x4 x5 : Option Value} {v : Int32} : Run 236 1395 (x0 :: x1 :: x2 :: x3 :: x4 :: x5 :: some (.int v) :: L) S h = Run 236 1397 (x0 :: x1 :: x2 :: x3 :: x4 :: x5 :: some (.int v) :: L) (.int v :: S) h := Rg rfl
set_option maxRecDepth 100000 in
theorem e236_1397 {L : Lo} {S : List Value} {h : Hp} {x : Int32} : Run 236 1397 L (.int x :: S) h = if x = 0 then Run 236 1400 L S h else Run 236 1412 L S h := RbrN (c := cnd .ne x 0 = true) (off := 15) rfl rfl cnd_ne
set_option maxRecDepth 100000 in
theorem e236_1400 {L : Lo} {S : List Value} {h : Hp} {x0 x1 x2 : Option Value} {v : Nat} : Run 236 1400 (x0 :: x1 :: x2 :: some (.ref v) :: L) S h = Run 236 1401 (x0 :: x1 :: x2 :: some (.ref v) :: L) (.ref v :: S) h := Rg rfl
set_option maxRecDepth 100000 in
theorem e236_1401 {L : Lo} {S : List Value} {h : Hp} : Run 236 1401 L S h = Run 236 1402 L (.int 0 :: S) h := Rg rfl
set_option maxRecDepth 100000 in
theorem e236_1402 {L : Lo} {S : List Value} {h : Hp} {i : Int32} {b : Nat} : Run 236 1402 L (.int i :: .ref b :: S) h = (gaJ h b i).bind fun v => Run 236 1403 L (.long v :: S) h := Rb rfl fun _ => rfl
set_option maxRecDepth 100000 in
theorem e236_1403 {L : Lo} {S : List Value} {h : Hp} {x0 x1 x2 x3 x4 x5 x6 : Option Value} {v : Int32} : Run 236 1403 (x0 :: x1 :: x2 :: x3 :: x4 :: x5 :: x6 :: some (.int v) :: L) S h = Run 236 1405 (x0 :: x1 :: x2 :: x3 :: x4 :: x5 :: x6 :: some (.int v) :: L) (.int v :: S) h := Rg rfl
set_option maxRecDepth 100000 in
theorem e236_1405 {L : Lo} {S : List Value} {h : Hp} {x : Int32} : Run 236 1405 L (.int x :: S) h = Run 236 1406 L (.long x.toInt64 :: S) h := Rg rfl
set_option maxRecDepth 100000 in
theorem e236_1406 {L : Lo} {S : List Value} {h : Hp} {x z : Int64} : Run 236 1406 L (.long z :: .long x :: S) h = Run 236 1407 L (.int (lg_cmp x z) :: S) h := Rg rfl
set_option maxRecDepth 100000 in
theorem e236_1407 {L : Lo} {S : List Value} {h : Hp} {x : Int32} : Run 236 1407 L (.int x :: S) h = if x = 0 then Run 236 1412 L S h else Run 236 1410 L S h := Rbr (c := cnd .eq x 0 = true) (off := 5) rfl rfl cnd_eq
set_option maxRecDepth 100000 in
theorem e236_1410 {L : Lo} {S : List Value} {h : Hp} : Run 236 1410 L S h = Run 236 1411 L (.int 0 :: S) h := Rg rfl
set_option maxRecDepth 100000 in
theorem e236_1411 {L : Lo} {h : Hp} {x : Int32} (hx : narrow .boolean (.int x) = .int x) : Run 236 1411 L [.int x] h = some (.inl (some (.int x)), h) := Rd (if_pos hx)
set_option maxRecDepth 100000 in
theorem e236_1412 {L : Lo} {S : List Value} {h : Hp} : Run 236 1412 L S h = Run 236 1812 L S h := Rg rfl
set_option maxRecDepth 100000 in
theorem e236_1415 {L : Lo} {S : List Value} {h : Hp} {x0 : Option Value} {v : Nat} : Run 236 1415 (x0 :: some (.ref v) :: L) S h = Run 236 1416 (x0 :: some (.ref v) :: L) (.ref v :: S) h := Rg rfl
set_option maxRecDepth 100000 in
theorem e236_1416 {L : Lo} {S : List Value} {h : Hp} {v : Nat} : Run 236 1416 (some (.ref v) :: L) S h = Run 236 1417 (some (.ref v) :: L) (.ref v :: S) h := Rg rfl
set_option maxRecDepth 100000 in
theorem e236_1417 {L : Lo} {S : List Value} {h : Hp} {x0 x1 x2 x3 x4 : Option Value} {v : Int32} : Run 236 1417 (x0 :: x1 :: x2 :: x3 :: x4 :: some (.int v) :: L) S h = Run 236 1419 (x0 :: x1 :: x2 :: x3 :: x4 :: some (.int v) :: L) (.int v :: S) h := Rg rfl
set_option maxRecDepth 100000 in
theorem e236_1419 {L : Lo} {S : List Value} {h : Hp} : Run 236 1419 L S h = Run 236 1420 L (.int 1 :: S) h := Rg rfl
set_option maxRecDepth 100000 in
theorem e236_1420 {L : Lo} {S : List Value} {h : Hp} {x z : Int32} : Run 236 1420 L (.int z :: .int x :: S) h = Run 236 1421 L (.int (x + z) :: S) h := Rg rfl
set_option maxRecDepth 100000 in
theorem e236_1421 {L : Lo} {S : List Value} {h : Hp} {i : Int32} {b : Nat} : Run 236 1421 L (.int i :: .ref b :: S) h = (gaI h b i).bind fun v => Run 236 1422 L (.int v :: S) h := Rb rfl fun _ => rfl
set_option maxRecDepth 100000 in
theorem e236_1422 {L : Lo} {S : List Value} {h : Hp} {v : Nat} : Run 236 1422 (some (.ref v) :: L) S h = Run 236 1423 (some (.ref v) :: L) (.ref v :: S) h := Rg rfl
set_option maxRecDepth 100000 in
theorem e236_1423 {L : Lo} {S : List Value} {h : Hp} {x0 x1 x2 x3 x4 : Option Value} {v : Int32} : Run 236 1423 (x0 :: x1 :: x2 :: x3 :: x4 :: some (.int v) :: L) S h = Run 236 1425 (x0 :: x1 :: x2 :: x3 :: x4 :: some (.int v) :: L) (.int v :: S) h := Rg rfl
set_option maxRecDepth 100000 in
theorem e236_1425 {L : Lo} {S : List Value} {h : Hp} : Run 236 1425 L S h = Run 236 1426 L (.int 2 :: S) h := Rg rfl
set_option maxRecDepth 100000 in
theorem e236_1426 {L : Lo} {S : List Value} {h : Hp} {x z : Int32} : Run 236 1426 L (.int z :: .int x :: S) h = Run 236 1427 L (.int (x + z) :: S) h := Rg rfl
set_option maxRecDepth 100000 in
theorem e236_1427 {L : Lo} {S : List Value} {h : Hp} {i : Int32} {b : Nat} : Run 236 1427 L (.int i :: .ref b :: S) h = (gaI h b i).bind fun v => Run 236 1428 L (.int v :: S) h := Rb rfl fun _ => rfl
set_option maxRecDepth 100000 in
theorem e236_1428 {L : Lo} {S : List Value} {h : Hp} {x0 x1 x2 : Option Value} {v : Nat} : Run 236 1428 (x0 :: x1 :: x2 :: some (.ref v) :: L) S h = Run 236 1429 (x0 :: x1 :: x2 :: some (.ref v) :: L) (.ref v :: S) h := Rg rfl
set_option maxRecDepth 100000 in
theorem e236_1429 {L : Lo} {h : Hp} {a3 : Nat} {a2 : Int32} {a1 : Int32} {a0 : Nat} : Run 236 1429 L [.ref a3, .int a2, .int a1, .ref a0] h = (Run 230 0 [some (.ref a0), some (.int a1), some (.int a2), some (.ref a3), none] [] h).bind fun o => aft 236 1429 1432 L [] o := Rc (c := 230) (As := [.ref a0, .int a1, .int a2, .ref a3]) (S' := []) (pc' := 1432) rfl
set_option maxRecDepth 100000 in
theorem e236_1432 {L : Lo} {S : List Value} {h : Hp} {x0 x1 x2 x3 x4 x5 : Option Value} {y : Option Value} {v : Int32} : Run 236 1432 (x0 :: x1 :: x2 :: x3 :: x4 :: x5 :: y :: L) (.int v :: S) h = Run 236 1434 (x0 :: x1 :: x2 :: x3 :: x4 :: ck x5 :: some (.int v) :: L) S h := Rg rfl
set_option maxRecDepth 100000 in
theorem e236_1434 {L : Lo} {S : List Value} {h : Hp} {x0 x1 : Option Value} {v : Nat} : Run 236 1434 (x0 :: x1 :: some (.ref v) :: L) S h = Run 236 1435 (x0 :: x1 :: some (.ref v) :: L) (.ref v :: S) h := Rg rfl
set_option maxRecDepth 100000 in
theorem e236_1435 {L : Lo} {S : List Value} {h : Hp} {v : Nat} : Run 236 1435 (some (.ref v) :: L) S h = Run 236 1436 (some (.ref v) :: L) (.ref v :: S) h := Rg rfl
set_option maxRecDepth 100000 in
theorem e236_1436 {L : Lo} {S : List Value} {h : Hp} {x0 x1 x2 x3 x4 : Option Value} {v : Int32} : Run 236 1436 (x0 :: x1 :: x2 :: x3 :: x4 :: some (.int v) :: L) S h = Run 236 1438 (x0 :: x1 :: x2 :: x3 :: x4 :: some (.int v) :: L) (.int v :: S) h := Rg rfl
set_option maxRecDepth 100000 in
theorem e236_1438 {L : Lo} {S : List Value} {h : Hp} : Run 236 1438 L S h = Run 236 1439 L (.int 1 :: S) h := Rg rfl
set_option maxRecDepth 100000 in
theorem e236_1439 {L : Lo} {S : List Value} {h : Hp} {x z : Int32} : Run 236 1439 L (.int z :: .int x :: S) h = Run 236 1440 L (.int (x + z) :: S) h := Rg rfl
set_option maxRecDepth 100000 in
theorem e236_1440 {L : Lo} {S : List Value} {h : Hp} {i : Int32} {b : Nat} : Run 236 1440 L (.int i :: .ref b :: S) h = (gaI h b i).bind fun v => Run 236 1441 L (.int v :: S) h := Rb rfl fun _ => rfl
set_option maxRecDepth 100000 in
theorem e236_1441 {L : Lo} {S : List Value} {h : Hp} {v : Nat} : Run 236 1441 (some (.ref v) :: L) S h = Run 236 1442 (some (.ref v) :: L) (.ref v :: S) h := Rg rfl
set_option maxRecDepth 100000 in
theorem e236_1442 {L : Lo} {S : List Value} {h : Hp} {x0 x1 x2 x3 x4 : Option Value} {v : Int32} : Run 236 1442 (x0 :: x1 :: x2 :: x3 :: x4 :: some (.int v) :: L) S h = Run 236 1444 (x0 :: x1 :: x2 :: x3 :: x4 :: some (.int v) :: L) (.int v :: S) h := Rg rfl
set_option maxRecDepth 100000 in
theorem e236_1444 {L : Lo} {S : List Value} {h : Hp} : Run 236 1444 L S h = Run 236 1445 L (.int 2 :: S) h := Rg rfl
set_option maxRecDepth 100000 in
theorem e236_1445 {L : Lo} {S : List Value} {h : Hp} {x z : Int32} : Run 236 1445 L (.int z :: .int x :: S) h = Run 236 1446 L (.int (x + z) :: S) h := Rg rfl
set_option maxRecDepth 100000 in
theorem e236_1446 {L : Lo} {S : List Value} {h : Hp} {i : Int32} {b : Nat} : Run 236 1446 L (.int i :: .ref b :: S) h = (gaI h b i).bind fun v => Run 236 1447 L (.int v :: S) h := Rb rfl fun _ => rfl
set_option maxRecDepth 100000 in
theorem e236_1447 {L : Lo} {h : Hp} {a2 : Int32} {a1 : Int32} {a0 : Nat} (hO : isO h a0 9 = true) : Run 236 1447 L [.int a2, .int a1, .ref a0] h = (Run 191 0 [some (.ref a0), some (.int a1), some (.int a2)] [] h).bind fun o => aft 236 1447 1450 L [] o := Rcv (c := 191) (As := [.int a1, .int a2]) (S' := []) (pc' := 1450) 9 rfl hO
set_option maxRecDepth 100000 in
theorem e236_1450 {L : Lo} {S : List Value} {h : Hp} {x0 x1 x2 x3 x4 x5 x6 : Option Value} {y : Option Value} {v : Int32} : Run 236 1450 (x0 :: x1 :: x2 :: x3 :: x4 :: x5 :: x6 :: y :: L) (.int v :: S) h = Run 236 1452 (x0 :: x1 :: x2 :: x3 :: x4 :: x5 :: ck x6 :: some (.int v) :: L) S h := Rg rfl
set_option maxRecDepth 100000 in
theorem e236_1452 {L : Lo} {S : List Value} {h : Hp} {x0 x1 : Option Value} {v : Nat} : Run 236 1452 (x0 :: x1 :: some (.ref v) :: L) S h = Run 236 1453 (x0 :: x1 :: some (.ref v) :: L) (.ref v :: S) h := Rg rfl
set_option maxRecDepth 100000 in
theorem e236_1453 {L : Lo} {h : Hp} {a0 : Nat} (hO : isO h a0 9 = true) : Run 236 1453 L [.ref a0] h = (Run 117 0 [some (.ref a0)] [] h).bind fun o => aft 236 1453 1456 L [] o := Rcv (c := 117) (As := []) (S' := []) (pc' := 1456) 9 rfl hO
set_option maxRecDepth 100000 in
theorem e236_1456 {L : Lo} {S : List Value} {h : Hp} {x0 x1 x2 x3 x4 x5 : Option Value} {v : Int32} : Run 236 1456 (x0 :: x1 :: x2 :: x3 :: x4 :: x5 :: some (.int v) :: L) S h = Run 236 1458 (x0 :: x1 :: x2 :: x3 :: x4 :: x5 :: some (.int v) :: L) (.int v :: S) h := Rg rfl
set_option maxRecDepth 100000 in
theorem e236_1458 {L : Lo} {S : List Value} {h : Hp} {x z : Int32} : Run 236 1458 L (.int z :: .int x :: S) h = if x = z then Run 236 1463 L S h else Run 236 1461 L S h := Rbr (c := cnd .eq x z = true) (off := 5) rfl rfl cnd_eq
set_option maxRecDepth 100000 in
theorem e236_1461 {L : Lo} {S : List Value} {h : Hp} : Run 236 1461 L S h = Run 236 1462 L (.int 0 :: S) h := Rg rfl
set_option maxRecDepth 100000 in
theorem e236_1462 {L : Lo} {h : Hp} {x : Int32} (hx : narrow .boolean (.int x) = .int x) : Run 236 1462 L [.int x] h = some (.inl (some (.int x)), h) := Rd (if_pos hx)
set_option maxRecDepth 100000 in
theorem e236_1463 {L : Lo} {S : List Value} {h : Hp} {x0 x1 x2 x3 x4 x5 : Option Value} {v : Int32} : Run 236 1463 (x0 :: x1 :: x2 :: x3 :: x4 :: x5 :: some (.int v) :: L) S h = Run 236 1465 (x0 :: x1 :: x2 :: x3 :: x4 :: x5 :: some (.int v) :: L) (.int v :: S) h := Rg rfl
set_option maxRecDepth 100000 in
theorem e236_1465 {L : Lo} {S : List Value} {h : Hp} {x : Int32} : Run 236 1465 L (.int x :: S) h = if x = 0 then Run 236 1468 L S h else Run 236 1480 L S h := RbrN (c := cnd .ne x 0 = true) (off := 15) rfl rfl cnd_ne
set_option maxRecDepth 100000 in
theorem e236_1468 {L : Lo} {S : List Value} {h : Hp} {x0 x1 x2 : Option Value} {v : Nat} : Run 236 1468 (x0 :: x1 :: x2 :: some (.ref v) :: L) S h = Run 236 1469 (x0 :: x1 :: x2 :: some (.ref v) :: L) (.ref v :: S) h := Rg rfl
set_option maxRecDepth 100000 in
theorem e236_1469 {L : Lo} {S : List Value} {h : Hp} : Run 236 1469 L S h = Run 236 1470 L (.int 0 :: S) h := Rg rfl
set_option maxRecDepth 100000 in
theorem e236_1470 {L : Lo} {S : List Value} {h : Hp} {i : Int32} {b : Nat} : Run 236 1470 L (.int i :: .ref b :: S) h = (gaJ h b i).bind fun v => Run 236 1471 L (.long v :: S) h := Rb rfl fun _ => rfl
set_option maxRecDepth 100000 in
theorem e236_1471 {L : Lo} {S : List Value} {h : Hp} {x0 x1 x2 x3 x4 x5 x6 : Option Value} {v : Int32} : Run 236 1471 (x0 :: x1 :: x2 :: x3 :: x4 :: x5 :: x6 :: some (.int v) :: L) S h = Run 236 1473 (x0 :: x1 :: x2 :: x3 :: x4 :: x5 :: x6 :: some (.int v) :: L) (.int v :: S) h := Rg rfl
set_option maxRecDepth 100000 in
theorem e236_1473 {L : Lo} {S : List Value} {h : Hp} {x : Int32} : Run 236 1473 L (.int x :: S) h = Run 236 1474 L (.long x.toInt64 :: S) h := Rg rfl
set_option maxRecDepth 100000 in
theorem e236_1474 {L : Lo} {S : List Value} {h : Hp} {x z : Int64} : Run 236 1474 L (.long z :: .long x :: S) h = Run 236 1475 L (.int (lg_cmp x z) :: S) h := Rg rfl
set_option maxRecDepth 100000 in
theorem e236_1475 {L : Lo} {S : List Value} {h : Hp} {x : Int32} : Run 236 1475 L (.int x :: S) h = if x = 0 then Run 236 1480 L S h else Run 236 1478 L S h := Rbr (c := cnd .eq x 0 = true) (off := 5) rfl rfl cnd_eq
set_option maxRecDepth 100000 in
theorem e236_1478 {L : Lo} {S : List Value} {h : Hp} : Run 236 1478 L S h = Run 236 1479 L (.int 0 :: S) h := Rg rfl
set_option maxRecDepth 100000 in
theorem e236_1479 {L : Lo} {h : Hp} {x : Int32} (hx : narrow .boolean (.int x) = .int x) : Run 236 1479 L [.int x] h = some (.inl (some (.int x)), h) := Rd (if_pos hx)
set_option maxRecDepth 100000 in
theorem e236_1480 {L : Lo} {S : List Value} {h : Hp} : Run 236 1480 L S h = Run 236 1812 L S h := Rg rfl
set_option maxRecDepth 100000 in
theorem e236_1483 {L : Lo} {S : List Value} {h : Hp} {x0 : Option Value} {v : Nat} : Run 236 1483 (x0 :: some (.ref v) :: L) S h = Run 236 1484 (x0 :: some (.ref v) :: L) (.ref v :: S) h := Rg rfl
set_option maxRecDepth 100000 in
theorem e236_1484 {L : Lo} {S : List Value} {h : Hp} {v : Nat} : Run 236 1484 (some (.ref v) :: L) S h = Run 236 1485 (some (.ref v) :: L) (.ref v :: S) h := Rg rfl
set_option maxRecDepth 100000 in
theorem e236_1485 {L : Lo} {S : List Value} {h : Hp} {x0 x1 x2 x3 x4 : Option Value} {v : Int32} : Run 236 1485 (x0 :: x1 :: x2 :: x3 :: x4 :: some (.int v) :: L) S h = Run 236 1487 (x0 :: x1 :: x2 :: x3 :: x4 :: some (.int v) :: L) (.int v :: S) h := Rg rfl
set_option maxRecDepth 100000 in
theorem e236_1487 {L : Lo} {S : List Value} {h : Hp} : Run 236 1487 L S h = Run 236 1488 L (.int 1 :: S) h := Rg rfl
set_option maxRecDepth 100000 in
theorem e236_1488 {L : Lo} {S : List Value} {h : Hp} {x z : Int32} : Run 236 1488 L (.int z :: .int x :: S) h = Run 236 1489 L (.int (x + z) :: S) h := Rg rfl
set_option maxRecDepth 100000 in
theorem e236_1489 {L : Lo} {S : List Value} {h : Hp} {i : Int32} {b : Nat} : Run 236 1489 L (.int i :: .ref b :: S) h = (gaI h b i).bind fun v => Run 236 1490 L (.int v :: S) h := Rb rfl fun _ => rfl
set_option maxRecDepth 100000 in
theorem e236_1490 {L : Lo} {S : List Value} {h : Hp} {x0 x1 x2 : Option Value} {v : Nat} : Run 236 1490 (x0 :: x1 :: x2 :: some (.ref v) :: L) S h = Run 236 1491 (x0 :: x1 :: x2 :: some (.ref v) :: L) (.ref v :: S) h := Rg rfl
set_option maxRecDepth 100000 in
theorem e236_1491 {L : Lo} {h : Hp} {a2 : Nat} {a1 : Int32} {a0 : Nat} : Run 236 1491 L [.ref a2, .int a1, .ref a0] h = (Run 231 0 [some (.ref a0), some (.int a1), some (.ref a2), none] [] h).bind fun o => aft 236 1491 1494 L [] o := Rc (c := 231) (As := [.ref a0, .int a1, .ref a2]) (S' := []) (pc' := 1494) rfl
set_option maxRecDepth 100000 in
theorem e236_1494 {L : Lo} {S : List Value} {h : Hp} {x0 x1 x2 x3 x4 x5 : Option Value} {y : Option Value} {v : Int32} : Run 236 1494 (x0 :: x1 :: x2 :: x3 :: x4 :: x5 :: y :: L) (.int v :: S) h = Run 236 1496 (x0 :: x1 :: x2 :: x3 :: x4 :: ck x5 :: some (.int v) :: L) S h := Rg rfl
set_option maxRecDepth 100000 in
theorem e236_1496 {L : Lo} {S : List Value} {h : Hp} {x0 x1 : Option Value} {v : Nat} : Run 236 1496 (x0 :: x1 :: some (.ref v) :: L) S h = Run 236 1497 (x0 :: x1 :: some (.ref v) :: L) (.ref v :: S) h := Rg rfl
set_option maxRecDepth 100000 in
theorem e236_1497 {L : Lo} {S : List Value} {h : Hp} {v : Nat} : Run 236 1497 (some (.ref v) :: L) S h = Run 236 1498 (some (.ref v) :: L) (.ref v :: S) h := Rg rfl
set_option maxRecDepth 100000 in
theorem e236_1498 {L : Lo} {S : List Value} {h : Hp} {x0 x1 x2 x3 x4 : Option Value} {v : Int32} : Run 236 1498 (x0 :: x1 :: x2 :: x3 :: x4 :: some (.int v) :: L) S h = Run 236 1500 (x0 :: x1 :: x2 :: x3 :: x4 :: some (.int v) :: L) (.int v :: S) h := Rg rfl
set_option maxRecDepth 100000 in
theorem e236_1500 {L : Lo} {S : List Value} {h : Hp} : Run 236 1500 L S h = Run 236 1501 L (.int 1 :: S) h := Rg rfl
set_option maxRecDepth 100000 in
theorem e236_1501 {L : Lo} {S : List Value} {h : Hp} {x z : Int32} : Run 236 1501 L (.int z :: .int x :: S) h = Run 236 1502 L (.int (x + z) :: S) h := Rg rfl
set_option maxRecDepth 100000 in
theorem e236_1502 {L : Lo} {S : List Value} {h : Hp} {i : Int32} {b : Nat} : Run 236 1502 L (.int i :: .ref b :: S) h = (gaI h b i).bind fun v => Run 236 1503 L (.int v :: S) h := Rb rfl fun _ => rfl
set_option maxRecDepth 100000 in
theorem e236_1503 {L : Lo} {h : Hp} {a1 : Int32} {a0 : Nat} (hO : isO h a0 9 = true) : Run 236 1503 L [.int a1, .ref a0] h = (Run 192 0 [some (.ref a0), some (.int a1), none, none, none, none] [] h).bind fun o => aft 236 1503 1506 L [] o := Rcv (c := 192) (As := [.int a1]) (S' := []) (pc' := 1506) 9 rfl hO
set_option maxRecDepth 100000 in
theorem e236_1506 {L : Lo} {S : List Value} {h : Hp} {x0 x1 x2 x3 x4 x5 x6 : Option Value} {y : Option Value} {v : Int32} : Run 236 1506 (x0 :: x1 :: x2 :: x3 :: x4 :: x5 :: x6 :: y :: L) (.int v :: S) h = Run 236 1508 (x0 :: x1 :: x2 :: x3 :: x4 :: x5 :: ck x6 :: some (.int v) :: L) S h := Rg rfl
set_option maxRecDepth 100000 in
theorem e236_1508 {L : Lo} {S : List Value} {h : Hp} {x0 x1 : Option Value} {v : Nat} : Run 236 1508 (x0 :: x1 :: some (.ref v) :: L) S h = Run 236 1509 (x0 :: x1 :: some (.ref v) :: L) (.ref v :: S) h := Rg rfl
set_option maxRecDepth 100000 in
theorem e236_1509 {L : Lo} {h : Hp} {a0 : Nat} (hO : isO h a0 9 = true) : Run 236 1509 L [.ref a0] h = (Run 117 0 [some (.ref a0)] [] h).bind fun o => aft 236 1509 1512 L [] o := Rcv (c := 117) (As := []) (S' := []) (pc' := 1512) 9 rfl hO
set_option maxRecDepth 100000 in
theorem e236_1512 {L : Lo} {S : List Value} {h : Hp} {x0 x1 x2 x3 x4 x5 : Option Value} {v : Int32} : Run 236 1512 (x0 :: x1 :: x2 :: x3 :: x4 :: x5 :: some (.int v) :: L) S h = Run 236 1514 (x0 :: x1 :: x2 :: x3 :: x4 :: x5 :: some (.int v) :: L) (.int v :: S) h := Rg rfl
set_option maxRecDepth 100000 in
theorem e236_1514 {L : Lo} {S : List Value} {h : Hp} {x z : Int32} : Run 236 1514 L (.int z :: .int x :: S) h = if x = z then Run 236 1519 L S h else Run 236 1517 L S h := Rbr (c := cnd .eq x z = true) (off := 5) rfl rfl cnd_eq
set_option maxRecDepth 100000 in
theorem e236_1517 {L : Lo} {S : List Value} {h : Hp} : Run 236 1517 L S h = Run 236 1518 L (.int 0 :: S) h := Rg rfl
set_option maxRecDepth 100000 in
theorem e236_1518 {L : Lo} {h : Hp} {x : Int32} (hx : narrow .boolean (.int x) = .int x) : Run 236 1518 L [.int x] h = some (.inl (some (.int x)), h) := Rd (if_pos hx)
set_option maxRecDepth 100000 in
theorem e236_1519 {L : Lo} {S : List Value} {h : Hp} {x0 x1 x2 x3 x4 x5 : Option Value} {v : Int32} : Run 236 1519 (x0 :: x1 :: x2 :: x3 :: x4 :: x5 :: some (.int v) :: L) S h = Run 236 1521 (x0 :: x1 :: x2 :: x3 :: x4 :: x5 :: some (.int v) :: L) (.int v :: S) h := Rg rfl
set_option maxRecDepth 100000 in
theorem e236_1521 {L : Lo} {S : List Value} {h : Hp} {x : Int32} : Run 236 1521 L (.int x :: S) h = if x = 0 then Run 236 1524 L S h else Run 236 1536 L S h := RbrN (c := cnd .ne x 0 = true) (off := 15) rfl rfl cnd_ne
set_option maxRecDepth 100000 in
theorem e236_1524 {L : Lo} {S : List Value} {h : Hp} {x0 x1 x2 : Option Value} {v : Nat} : Run 236 1524 (x0 :: x1 :: x2 :: some (.ref v) :: L) S h = Run 236 1525 (x0 :: x1 :: x2 :: some (.ref v) :: L) (.ref v :: S) h := Rg rfl
set_option maxRecDepth 100000 in
theorem e236_1525 {L : Lo} {S : List Value} {h : Hp} : Run 236 1525 L S h = Run 236 1526 L (.int 0 :: S) h := Rg rfl
set_option maxRecDepth 100000 in
theorem e236_1526 {L : Lo} {S : List Value} {h : Hp} {i : Int32} {b : Nat} : Run 236 1526 L (.int i :: .ref b :: S) h = (gaJ h b i).bind fun v => Run 236 1527 L (.long v :: S) h := Rb rfl fun _ => rfl
set_option maxRecDepth 100000 in
theorem e236_1527 {L : Lo} {S : List Value} {h : Hp} {x0 x1 x2 x3 x4 x5 x6 : Option Value} {v : Int32} : Run 236 1527 (x0 :: x1 :: x2 :: x3 :: x4 :: x5 :: x6 :: some (.int v) :: L) S h = Run 236 1529 (x0 :: x1 :: x2 :: x3 :: x4 :: x5 :: x6 :: some (.int v) :: L) (.int v :: S) h := Rg rfl
set_option maxRecDepth 100000 in
theorem e236_1529 {L : Lo} {S : List Value} {h : Hp} {x : Int32} : Run 236 1529 L (.int x :: S) h = Run 236 1530 L (.long x.toInt64 :: S) h := Rg rfl
set_option maxRecDepth 100000 in
theorem e236_1530 {L : Lo} {S : List Value} {h : Hp} {x z : Int64} : Run 236 1530 L (.long z :: .long x :: S) h = Run 236 1531 L (.int (lg_cmp x z) :: S) h := Rg rfl
set_option maxRecDepth 100000 in
theorem e236_1531 {L : Lo} {S : List Value} {h : Hp} {x : Int32} : Run 236 1531 L (.int x :: S) h = if x = 0 then Run 236 1536 L S h else Run 236 1534 L S h := Rbr (c := cnd .eq x 0 = true) (off := 5) rfl rfl cnd_eq
set_option maxRecDepth 100000 in
theorem e236_1534 {L : Lo} {S : List Value} {h : Hp} : Run 236 1534 L S h = Run 236 1535 L (.int 0 :: S) h := Rg rfl
set_option maxRecDepth 100000 in
theorem e236_1535 {L : Lo} {h : Hp} {x : Int32} (hx : narrow .boolean (.int x) = .int x) : Run 236 1535 L [.int x] h = some (.inl (some (.int x)), h) := Rd (if_pos hx)
set_option maxRecDepth 100000 in
theorem e236_1536 {L : Lo} {S : List Value} {h : Hp} : Run 236 1536 L S h = Run 236 1812 L S h := Rg rfl
set_option maxRecDepth 100000 in
theorem e236_1539 {L : Lo} {S : List Value} {h : Hp} {x0 : Option Value} {v : Nat} : Run 236 1539 (x0 :: some (.ref v) :: L) S h = Run 236 1540 (x0 :: some (.ref v) :: L) (.ref v :: S) h := Rg rfl
set_option maxRecDepth 100000 in
theorem e236_1540 {L : Lo} {S : List Value} {h : Hp} {v : Nat} : Run 236 1540 (some (.ref v) :: L) S h = Run 236 1541 (some (.ref v) :: L) (.ref v :: S) h := Rg rfl
set_option maxRecDepth 100000 in
theorem e236_1541 {L : Lo} {S : List Value} {h : Hp} {x0 x1 x2 x3 x4 : Option Value} {v : Int32} : Run 236 1541 (x0 :: x1 :: x2 :: x3 :: x4 :: some (.int v) :: L) S h = Run 236 1543 (x0 :: x1 :: x2 :: x3 :: x4 :: some (.int v) :: L) (.int v :: S) h := Rg rfl
set_option maxRecDepth 100000 in
theorem e236_1543 {L : Lo} {S : List Value} {h : Hp} : Run 236 1543 L S h = Run 236 1544 L (.int 1 :: S) h := Rg rfl
set_option maxRecDepth 100000 in
theorem e236_1544 {L : Lo} {S : List Value} {h : Hp} {x z : Int32} : Run 236 1544 L (.int z :: .int x :: S) h = Run 236 1545 L (.int (x + z) :: S) h := Rg rfl
set_option maxRecDepth 100000 in
theorem e236_1545 {L : Lo} {S : List Value} {h : Hp} {i : Int32} {b : Nat} : Run 236 1545 L (.int i :: .ref b :: S) h = (gaI h b i).bind fun v => Run 236 1546 L (.int v :: S) h := Rb rfl fun _ => rfl
set_option maxRecDepth 100000 in
theorem e236_1546 {L : Lo} {S : List Value} {h : Hp} {x0 x1 x2 : Option Value} {v : Nat} : Run 236 1546 (x0 :: x1 :: x2 :: some (.ref v) :: L) S h = Run 236 1547 (x0 :: x1 :: x2 :: some (.ref v) :: L) (.ref v :: S) h := Rg rfl
set_option maxRecDepth 100000 in
theorem e236_1547 {L : Lo} {h : Hp} {a2 : Nat} {a1 : Int32} {a0 : Nat} : Run 236 1547 L [.ref a2, .int a1, .ref a0] h = (Run 232 0 [some (.ref a0), some (.int a1), some (.ref a2), none] [] h).bind fun o => aft 236 1547 1550 L [] o := Rc (c := 232) (As := [.ref a0, .int a1, .ref a2]) (S' := []) (pc' := 1550) rfl
set_option maxRecDepth 100000 in
theorem e236_1550 {L : Lo} {S : List Value} {h : Hp} {x0 x1 x2 x3 x4 x5 : Option Value} {y : Option Value} {v : Int32} : Run 236 1550 (x0 :: x1 :: x2 :: x3 :: x4 :: x5 :: y :: L) (.int v :: S) h = Run 236 1552 (x0 :: x1 :: x2 :: x3 :: x4 :: ck x5 :: some (.int v) :: L) S h := Rg rfl
set_option maxRecDepth 100000 in
theorem e236_1552 {L : Lo} {S : List Value} {h : Hp} {x0 x1 : Option Value} {v : Nat} : Run 236 1552 (x0 :: x1 :: some (.ref v) :: L) S h = Run 236 1553 (x0 :: x1 :: some (.ref v) :: L) (.ref v :: S) h := Rg rfl
set_option maxRecDepth 100000 in
theorem e236_1553 {L : Lo} {S : List Value} {h : Hp} {v : Nat} : Run 236 1553 (some (.ref v) :: L) S h = Run 236 1554 (some (.ref v) :: L) (.ref v :: S) h := Rg rfl
set_option maxRecDepth 100000 in
theorem e236_1554 {L : Lo} {S : List Value} {h : Hp} {x0 x1 x2 x3 x4 : Option Value} {v : Int32} : Run 236 1554 (x0 :: x1 :: x2 :: x3 :: x4 :: some (.int v) :: L) S h = Run 236 1556 (x0 :: x1 :: x2 :: x3 :: x4 :: some (.int v) :: L) (.int v :: S) h := Rg rfl
set_option maxRecDepth 100000 in
theorem e236_1556 {L : Lo} {S : List Value} {h : Hp} : Run 236 1556 L S h = Run 236 1557 L (.int 1 :: S) h := Rg rfl
set_option maxRecDepth 100000 in
theorem e236_1557 {L : Lo} {S : List Value} {h : Hp} {x z : Int32} : Run 236 1557 L (.int z :: .int x :: S) h = Run 236 1558 L (.int (x + z) :: S) h := Rg rfl
set_option maxRecDepth 100000 in
theorem e236_1558 {L : Lo} {S : List Value} {h : Hp} {i : Int32} {b : Nat} : Run 236 1558 L (.int i :: .ref b :: S) h = (gaI h b i).bind fun v => Run 236 1559 L (.int v :: S) h := Rb rfl fun _ => rfl
set_option maxRecDepth 100000 in
theorem e236_1559 {L : Lo} {h : Hp} {a1 : Int32} {a0 : Nat} (hO : isO h a0 9 = true) : Run 236 1559 L [.int a1, .ref a0] h = (Run 193 0 [some (.ref a0), some (.int a1), none, none] [] h).bind fun o => aft 236 1559 1562 L [] o := Rcv (c := 193) (As := [.int a1]) (S' := []) (pc' := 1562) 9 rfl hO
set_option maxRecDepth 100000 in
theorem e236_1562 {L : Lo} {S : List Value} {h : Hp} {x0 x1 x2 x3 x4 x5 x6 : Option Value} {y : Option Value} {v : Int32} : Run 236 1562 (x0 :: x1 :: x2 :: x3 :: x4 :: x5 :: x6 :: y :: L) (.int v :: S) h = Run 236 1564 (x0 :: x1 :: x2 :: x3 :: x4 :: x5 :: ck x6 :: some (.int v) :: L) S h := Rg rfl
set_option maxRecDepth 100000 in
theorem e236_1564 {L : Lo} {S : List Value} {h : Hp} {x0 x1 : Option Value} {v : Nat} : Run 236 1564 (x0 :: x1 :: some (.ref v) :: L) S h = Run 236 1565 (x0 :: x1 :: some (.ref v) :: L) (.ref v :: S) h := Rg rfl
set_option maxRecDepth 100000 in
theorem e236_1565 {L : Lo} {h : Hp} {a0 : Nat} (hO : isO h a0 9 = true) : Run 236 1565 L [.ref a0] h = (Run 117 0 [some (.ref a0)] [] h).bind fun o => aft 236 1565 1568 L [] o := Rcv (c := 117) (As := []) (S' := []) (pc' := 1568) 9 rfl hO
set_option maxRecDepth 100000 in
theorem e236_1568 {L : Lo} {S : List Value} {h : Hp} {x0 x1 x2 x3 x4 x5 : Option Value} {v : Int32} : Run 236 1568 (x0 :: x1 :: x2 :: x3 :: x4 :: x5 :: some (.int v) :: L) S h = Run 236 1570 (x0 :: x1 :: x2 :: x3 :: x4 :: x5 :: some (.int v) :: L) (.int v :: S) h := Rg rfl
set_option maxRecDepth 100000 in
theorem e236_1570 {L : Lo} {S : List Value} {h : Hp} {x z : Int32} : Run 236 1570 L (.int z :: .int x :: S) h = if x = z then Run 236 1575 L S h else Run 236 1573 L S h := Rbr (c := cnd .eq x z = true) (off := 5) rfl rfl cnd_eq
set_option maxRecDepth 100000 in
theorem e236_1573 {L : Lo} {S : List Value} {h : Hp} : Run 236 1573 L S h = Run 236 1574 L (.int 0 :: S) h := Rg rfl
set_option maxRecDepth 100000 in
theorem e236_1574 {L : Lo} {h : Hp} {x : Int32} (hx : narrow .boolean (.int x) = .int x) : Run 236 1574 L [.int x] h = some (.inl (some (.int x)), h) := Rd (if_pos hx)
set_option maxRecDepth 100000 in
theorem e236_1575 {L : Lo} {S : List Value} {h : Hp} {x0 x1 x2 x3 x4 x5 : Option Value} {v : Int32} : Run 236 1575 (x0 :: x1 :: x2 :: x3 :: x4 :: x5 :: some (.int v) :: L) S h = Run 236 1577 (x0 :: x1 :: x2 :: x3 :: x4 :: x5 :: some (.int v) :: L) (.int v :: S) h := Rg rfl
set_option maxRecDepth 100000 in
theorem e236_1577 {L : Lo} {S : List Value} {h : Hp} {x : Int32} : Run 236 1577 L (.int x :: S) h = if x = 0 then Run 236 1580 L S h else Run 236 1592 L S h := RbrN (c := cnd .ne x 0 = true) (off := 15) rfl rfl cnd_ne
set_option maxRecDepth 100000 in
theorem e236_1580 {L : Lo} {S : List Value} {h : Hp} {x0 x1 x2 : Option Value} {v : Nat} : Run 236 1580 (x0 :: x1 :: x2 :: some (.ref v) :: L) S h = Run 236 1581 (x0 :: x1 :: x2 :: some (.ref v) :: L) (.ref v :: S) h := Rg rfl
set_option maxRecDepth 100000 in
theorem e236_1581 {L : Lo} {S : List Value} {h : Hp} : Run 236 1581 L S h = Run 236 1582 L (.int 0 :: S) h := Rg rfl
set_option maxRecDepth 100000 in
theorem e236_1582 {L : Lo} {S : List Value} {h : Hp} {i : Int32} {b : Nat} : Run 236 1582 L (.int i :: .ref b :: S) h = (gaJ h b i).bind fun v => Run 236 1583 L (.long v :: S) h := Rb rfl fun _ => rfl
set_option maxRecDepth 100000 in
theorem e236_1583 {L : Lo} {S : List Value} {h : Hp} {x0 x1 x2 x3 x4 x5 x6 : Option Value} {v : Int32} : Run 236 1583 (x0 :: x1 :: x2 :: x3 :: x4 :: x5 :: x6 :: some (.int v) :: L) S h = Run 236 1585 (x0 :: x1 :: x2 :: x3 :: x4 :: x5 :: x6 :: some (.int v) :: L) (.int v :: S) h := Rg rfl
set_option maxRecDepth 100000 in
theorem e236_1585 {L : Lo} {S : List Value} {h : Hp} {x : Int32} : Run 236 1585 L (.int x :: S) h = Run 236 1586 L (.long x.toInt64 :: S) h := Rg rfl
set_option maxRecDepth 100000 in
theorem e236_1586 {L : Lo} {S : List Value} {h : Hp} {x z : Int64} : Run 236 1586 L (.long z :: .long x :: S) h = Run 236 1587 L (.int (lg_cmp x z) :: S) h := Rg rfl
set_option maxRecDepth 100000 in
theorem e236_1587 {L : Lo} {S : List Value} {h : Hp} {x : Int32} : Run 236 1587 L (.int x :: S) h = if x = 0 then Run 236 1592 L S h else Run 236 1590 L S h := Rbr (c := cnd .eq x 0 = true) (off := 5) rfl rfl cnd_eq
set_option maxRecDepth 100000 in
theorem e236_1590 {L : Lo} {S : List Value} {h : Hp} : Run 236 1590 L S h = Run 236 1591 L (.int 0 :: S) h := Rg rfl
set_option maxRecDepth 100000 in
theorem e236_1591 {L : Lo} {h : Hp} {x : Int32} (hx : narrow .boolean (.int x) = .int x) : Run 236 1591 L [.int x] h = some (.inl (some (.int x)), h) := Rd (if_pos hx)
set_option maxRecDepth 100000 in
theorem e236_1592 {L : Lo} {S : List Value} {h : Hp} : Run 236 1592 L S h = Run 236 1812 L S h := Rg rfl
set_option maxRecDepth 100000 in
theorem e236_1595 {L : Lo} {S : List Value} {h : Hp} {x0 : Option Value} {v : Nat} : Run 236 1595 (x0 :: some (.ref v) :: L) S h = Run 236 1596 (x0 :: some (.ref v) :: L) (.ref v :: S) h := Rg rfl
set_option maxRecDepth 100000 in
theorem e236_1596 {L : Lo} {S : List Value} {h : Hp} {v : Nat} : Run 236 1596 (some (.ref v) :: L) S h = Run 236 1597 (some (.ref v) :: L) (.ref v :: S) h := Rg rfl
set_option maxRecDepth 100000 in
theorem e236_1597 {L : Lo} {S : List Value} {h : Hp} {x0 x1 x2 x3 x4 : Option Value} {v : Int32} : Run 236 1597 (x0 :: x1 :: x2 :: x3 :: x4 :: some (.int v) :: L) S h = Run 236 1599 (x0 :: x1 :: x2 :: x3 :: x4 :: some (.int v) :: L) (.int v :: S) h := Rg rfl
set_option maxRecDepth 100000 in
theorem e236_1599 {L : Lo} {S : List Value} {h : Hp} : Run 236 1599 L S h = Run 236 1600 L (.int 1 :: S) h := Rg rfl
set_option maxRecDepth 100000 in
theorem e236_1600 {L : Lo} {S : List Value} {h : Hp} {x z : Int32} : Run 236 1600 L (.int z :: .int x :: S) h = Run 236 1601 L (.int (x + z) :: S) h := Rg rfl
set_option maxRecDepth 100000 in
theorem e236_1601 {L : Lo} {S : List Value} {h : Hp} {i : Int32} {b : Nat} : Run 236 1601 L (.int i :: .ref b :: S) h = (gaI h b i).bind fun v => Run 236 1602 L (.int v :: S) h := Rb rfl fun _ => rfl
set_option maxRecDepth 100000 in
theorem e236_1602 {L : Lo} {S : List Value} {h : Hp} {x0 x1 x2 x3 : Option Value} {v : Nat} : Run 236 1602 (x0 :: x1 :: x2 :: x3 :: some (.ref v) :: L) S h = Run 236 1604 (x0 :: x1 :: x2 :: x3 :: some (.ref v) :: L) (.ref v :: S) h := Rg rfl
set_option maxRecDepth 100000 in
theorem e236_1604 {L : Lo} {h : Hp} {a2 : Nat} {a1 : Int32} {a0 : Nat} : Run 236 1604 L [.ref a2, .int a1, .ref a0] h = (Run 233 0 [some (.ref a0), some (.int a1), some (.ref a2), none] [] h).bind fun o => aft 236 1604 1607 L [] o := Rc (c := 233) (As := [.ref a0, .int a1, .ref a2]) (S' := []) (pc' := 1607) rfl
set_option maxRecDepth 100000 in
theorem e236_1607 {L : Lo} {S : List Value} {h : Hp} {x0 x1 x2 x3 x4 x5 : Option Value} {y : Option Value} {v : Int32} : Run 236 1607 (x0 :: x1 :: x2 :: x3 :: x4 :: x5 :: y :: L) (.int v :: S) h = Run 236 1609 (x0 :: x1 :: x2 :: x3 :: x4 :: ck x5 :: some (.int v) :: L) S h := Rg rfl
set_option maxRecDepth 100000 in
theorem e236_1609 {L : Lo} {S : List Value} {h : Hp} {x0 x1 : Option Value} {v : Nat} : Run 236 1609 (x0 :: x1 :: some (.ref v) :: L) S h = Run 236 1610 (x0 :: x1 :: some (.ref v) :: L) (.ref v :: S) h := Rg rfl
set_option maxRecDepth 100000 in
theorem e236_1610 {L : Lo} {S : List Value} {h : Hp} {v : Nat} : Run 236 1610 (some (.ref v) :: L) S h = Run 236 1611 (some (.ref v) :: L) (.ref v :: S) h := Rg rfl
set_option maxRecDepth 100000 in
theorem e236_1611 {L : Lo} {S : List Value} {h : Hp} {x0 x1 x2 x3 x4 : Option Value} {v : Int32} : Run 236 1611 (x0 :: x1 :: x2 :: x3 :: x4 :: some (.int v) :: L) S h = Run 236 1613 (x0 :: x1 :: x2 :: x3 :: x4 :: some (.int v) :: L) (.int v :: S) h := Rg rfl
set_option maxRecDepth 100000 in
theorem e236_1613 {L : Lo} {S : List Value} {h : Hp} : Run 236 1613 L S h = Run 236 1614 L (.int 1 :: S) h := Rg rfl
set_option maxRecDepth 100000 in
theorem e236_1614 {L : Lo} {S : List Value} {h : Hp} {x z : Int32} : Run 236 1614 L (.int z :: .int x :: S) h = Run 236 1615 L (.int (x + z) :: S) h := Rg rfl
set_option maxRecDepth 100000 in
theorem e236_1615 {L : Lo} {S : List Value} {h : Hp} {i : Int32} {b : Nat} : Run 236 1615 L (.int i :: .ref b :: S) h = (gaI h b i).bind fun v => Run 236 1616 L (.int v :: S) h := Rb rfl fun _ => rfl
set_option maxRecDepth 100000 in
theorem e236_1616 {L : Lo} {h : Hp} {a1 : Int32} {a0 : Nat} (hO : isO h a0 9 = true) : Run 236 1616 L [.int a1, .ref a0] h = (Run 194 0 [some (.ref a0), some (.int a1), none, none, none, none] [] h).bind fun o => aft 236 1616 1619 L [] o := Rcv (c := 194) (As := [.int a1]) (S' := []) (pc' := 1619) 9 rfl hO
set_option maxRecDepth 100000 in
theorem e236_1619 {L : Lo} {S : List Value} {h : Hp} {x0 x1 x2 x3 x4 x5 x6 : Option Value} {y w : Option Value} {v : UInt64} : Run 236 1619 (x0 :: x1 :: x2 :: x3 :: x4 :: x5 :: x6 :: y :: w :: L) (.double v :: S) h = Run 236 1621 (x0 :: x1 :: x2 :: x3 :: x4 :: x5 :: ck x6 :: some (.double v) :: none :: L) S h := Rg rfl
set_option maxRecDepth 100000 in
theorem e236_1621 {L : Lo} {S : List Value} {h : Hp} {x0 x1 : Option Value} {v : Nat} : Run 236 1621 (x0 :: x1 :: some (.ref v) :: L) S h = Run 236 1622 (x0 :: x1 :: some (.ref v) :: L) (.ref v :: S) h := Rg rfl
set_option maxRecDepth 100000 in
theorem e236_1622 {L : Lo} {h : Hp} {a0 : Nat} (hO : isO h a0 9 = true) : Run 236 1622 L [.ref a0] h = (Run 117 0 [some (.ref a0)] [] h).bind fun o => aft 236 1622 1625 L [] o := Rcv (c := 117) (As := []) (S' := []) (pc' := 1625) 9 rfl hO
set_option maxRecDepth 100000 in
theorem e236_1625 {L : Lo} {S : List Value} {h : Hp} {x0 x1 x2 x3 x4 x5 : Option Value} {v : Int32} : Run 236 1625 (x0 :: x1 :: x2 :: x3 :: x4 :: x5 :: some (.int v) :: L) S h = Run 236 1627 (x0 :: x1 :: x2 :: x3 :: x4 :: x5 :: some (.int v) :: L) (.int v :: S) h := Rg rfl
set_option maxRecDepth 100000 in
theorem e236_1627 {L : Lo} {S : List Value} {h : Hp} {x z : Int32} : Run 236 1627 L (.int z :: .int x :: S) h = if x = z then Run 236 1632 L S h else Run 236 1630 L S h := Rbr (c := cnd .eq x z = true) (off := 5) rfl rfl cnd_eq
set_option maxRecDepth 100000 in
theorem e236_1630 {L : Lo} {S : List Value} {h : Hp} : Run 236 1630 L S h = Run 236 1631 L (.int 0 :: S) h := Rg rfl
set_option maxRecDepth 100000 in
theorem e236_1631 {L : Lo} {h : Hp} {x : Int32} (hx : narrow .boolean (.int x) = .int x) : Run 236 1631 L [.int x] h = some (.inl (some (.int x)), h) := Rd (if_pos hx)
set_option maxRecDepth 100000 in
theorem e236_1632 {L : Lo} {S : List Value} {h : Hp} {x0 x1 x2 x3 x4 x5 : Option Value} {v : Int32} : Run 236 1632 (x0 :: x1 :: x2 :: x3 :: x4 :: x5 :: some (.int v) :: L) S h = Run 236 1634 (x0 :: x1 :: x2 :: x3 :: x4 :: x5 :: some (.int v) :: L) (.int v :: S) h := Rg rfl
set_option maxRecDepth 100000 in
theorem e236_1634 {L : Lo} {S : List Value} {h : Hp} {x : Int32} : Run 236 1634 L (.int x :: S) h = if x = 0 then Run 236 1637 L S h else Run 236 1669 L S h := RbrN (c := cnd .ne x 0 = true) (off := 35) rfl rfl cnd_ne
set_option maxRecDepth 100000 in
theorem e236_1637 {L : Lo} {S : List Value} {h : Hp} {x0 x1 x2 x3 : Option Value} {v : Nat} : Run 236 1637 (x0 :: x1 :: x2 :: x3 :: some (.ref v) :: L) S h = Run 236 1639 (x0 :: x1 :: x2 :: x3 :: some (.ref v) :: L) (.ref v :: S) h := Rg rfl
set_option maxRecDepth 100000 in
theorem e236_1639 {L : Lo} {S : List Value} {h : Hp} : Run 236 1639 L S h = Run 236 1640 L (.int 0 :: S) h := Rg rfl
set_option maxRecDepth 100000 in
theorem e236_1640 {L : Lo} {S : List Value} {h : Hp} {i : Int32} {b : Nat} : Run 236 1640 L (.int i :: .ref b :: S) h = (gaD h b i).bind fun v => Run 236 1641 L (.double v :: S) h := Rb rfl fun _ => rfl
set_option maxRecDepth 100000 in
theorem e236_1641 {L : Lo} {S : List Value} {h : Hp} {x0 x1 x2 x3 x4 x5 x6 : Option Value} {v : UInt64} : Run 236 1641 (x0 :: x1 :: x2 :: x3 :: x4 :: x5 :: x6 :: some (.double v) :: L) S h = Run 236 1643 (x0 :: x1 :: x2 :: x3 :: x4 :: x5 :: x6 :: some (.double v) :: L) (.double v :: S) h := Rg rfl
set_option maxRecDepth 100000 in
theorem e236_1643 {L : Lo} {S : List Value} {h : Hp} {x z : UInt64} : Run 236 1643 L (.double z :: .double x :: S) h = Run 236 1644 L (.int (Op.cmpValue (FP.dcmp x z) .l) :: S) h := Rg rfl
set_option maxRecDepth 100000 in
theorem e236_1644 {L : Lo} {S : List Value} {h : Hp} {x : Int32} : Run 236 1644 L (.int x :: S) h = if x = 0 then Run 236 1669 L S h else Run 236 1647 L S h := Rbr (c := cnd .eq x 0 = true) (off := 25) rfl rfl cnd_eq
set_option maxRecDepth 100000 in
theorem e236_1647 {L : Lo} {S : List Value} {h : Hp} {x0 x1 x2 x3 : Option Value} {v : Nat} : Run 236 1647 (x0 :: x1 :: x2 :: x3 :: some (.ref v) :: L) S h = Run 236 1649 (x0 :: x1 :: x2 :: x3 :: some (.ref v) :: L) (.ref v :: S) h := Rg rfl
set_option maxRecDepth 100000 in
theorem e236_1649 {L : Lo} {S : List Value} {h : Hp} : Run 236 1649 L S h = Run 236 1650 L (.int 0 :: S) h := Rg rfl
set_option maxRecDepth 100000 in
theorem e236_1650 {L : Lo} {S : List Value} {h : Hp} {i : Int32} {b : Nat} : Run 236 1650 L (.int i :: .ref b :: S) h = (gaD h b i).bind fun v => Run 236 1651 L (.double v :: S) h := Rb rfl fun _ => rfl
set_option maxRecDepth 100000 in
theorem e236_1651 {L : Lo} {S : List Value} {h : Hp} {x0 x1 x2 x3 : Option Value} {v : Nat} : Run 236 1651 (x0 :: x1 :: x2 :: x3 :: some (.ref v) :: L) S h = Run 236 1653 (x0 :: x1 :: x2 :: x3 :: some (.ref v) :: L) (.ref v :: S) h := Rg rfl
set_option maxRecDepth 100000 in
theorem e236_1653 {L : Lo} {S : List Value} {h : Hp} : Run 236 1653 L S h = Run 236 1654 L (.int 0 :: S) h := Rg rfl
set_option maxRecDepth 100000 in
theorem e236_1654 {L : Lo} {S : List Value} {h : Hp} {i : Int32} {b : Nat} : Run 236 1654 L (.int i :: .ref b :: S) h = (gaD h b i).bind fun v => Run 236 1655 L (.double v :: S) h := Rb rfl fun _ => rfl
set_option maxRecDepth 100000 in
theorem e236_1655 {L : Lo} {S : List Value} {h : Hp} {x z : UInt64} : Run 236 1655 L (.double z :: .double x :: S) h = Run 236 1656 L (.int (Op.cmpValue (FP.dcmp x z) .l) :: S) h := Rg rfl
set_option maxRecDepth 100000 in
theorem e236_1656 {L : Lo} {S : List Value} {h : Hp} {x : Int32} : Run 236 1656 L (.int x :: S) h = if x = 0 then Run 236 1667 L S h else Run 236 1659 L S h := Rbr (c := cnd .eq x 0 = true) (off := 11) rfl rfl cnd_eq
set_option maxRecDepth 100000 in
theorem e236_1659 {L : Lo} {S : List Value} {h : Hp} {x0 x1 x2 x3 x4 x5 x6 : Option Value} {v : UInt64} : Run 236 1659 (x0 :: x1 :: x2 :: x3 :: x4 :: x5 :: x6 :: some (.double v) :: L) S h = Run 236 1661 (x0 :: x1 :: x2 :: x3 :: x4 :: x5 :: x6 :: some (.double v) :: L) (.double v :: S) h := Rg rfl
set_option maxRecDepth 100000 in
theorem e236_1661 {L : Lo} {S : List Value} {h : Hp} {x0 x1 x2 x3 x4 x5 x6 : Option Value} {v : UInt64} : Run 236 1661 (x0 :: x1 :: x2 :: x3 :: x4 :: x5 :: x6 :: some (.double v) :: L) S h = Run 236 1663 (x0 :: x1 :: x2 :: x3 :: x4 :: x5 :: x6 :: some (.double v) :: L) (.double v :: S) h := Rg rfl
set_option maxRecDepth 100000 in
theorem e236_1663 {L : Lo} {S : List Value} {h : Hp} {x z : UInt64} : Run 236 1663 L (.double z :: .double x :: S) h = Run 236 1664 L (.int (Op.cmpValue (FP.dcmp x z) .l) :: S) h := Rg rfl
set_option maxRecDepth 100000 in
theorem e236_1664 {L : Lo} {S : List Value} {h : Hp} {x : Int32} : Run 236 1664 L (.int x :: S) h = if x = 0 then Run 236 1667 L S h else Run 236 1669 L S h := RbrN (c := cnd .ne x 0 = true) (off := 5) rfl rfl cnd_ne
set_option maxRecDepth 100000 in
theorem e236_1667 {L : Lo} {S : List Value} {h : Hp} : Run 236 1667 L S h = Run 236 1668 L (.int 0 :: S) h := Rg rfl
set_option maxRecDepth 100000 in
theorem e236_1668 {L : Lo} {h : Hp} {x : Int32} (hx : narrow .boolean (.int x) = .int x) : Run 236 1668 L [.int x] h = some (.inl (some (.int x)), h) := Rd (if_pos hx)
set_option maxRecDepth 100000 in
theorem e236_1669 {L : Lo} {S : List Value} {h : Hp} : Run 236 1669 L S h = Run 236 1812 L S h := Rg rfl
set_option maxRecDepth 100000 in
theorem e236_1672 {L : Lo} {S : List Value} {h : Hp} {x0 : Option Value} {v : Nat} : Run 236 1672 (x0 :: some (.ref v) :: L) S h = Run 236 1673 (x0 :: some (.ref v) :: L) (.ref v :: S) h := Rg rfl
set_option maxRecDepth 100000 in
theorem e236_1673 {L : Lo} {S : List Value} {h : Hp} {v : Nat} : Run 236 1673 (some (.ref v) :: L) S h = Run 236 1674 (some (.ref v) :: L) (.ref v :: S) h := Rg rfl
set_option maxRecDepth 100000 in
theorem e236_1674 {L : Lo} {S : List Value} {h : Hp} {x0 x1 x2 x3 x4 : Option Value} {v : Int32} : Run 236 1674 (x0 :: x1 :: x2 :: x3 :: x4 :: some (.int v) :: L) S h = Run 236 1676 (x0 :: x1 :: x2 :: x3 :: x4 :: some (.int v) :: L) (.int v :: S) h := Rg rfl
set_option maxRecDepth 100000 in
theorem e236_1676 {L : Lo} {S : List Value} {h : Hp} : Run 236 1676 L S h = Run 236 1677 L (.int 1 :: S) h := Rg rfl
set_option maxRecDepth 100000 in
theorem e236_1677 {L : Lo} {S : List Value} {h : Hp} {x z : Int32} : Run 236 1677 L (.int z :: .int x :: S) h = Run 236 1678 L (.int (x + z) :: S) h := Rg rfl
set_option maxRecDepth 100000 in
theorem e236_1678 {L : Lo} {S : List Value} {h : Hp} {i : Int32} {b : Nat} : Run 236 1678 L (.int i :: .ref b :: S) h = (gaI h b i).bind fun v => Run 236 1679 L (.int v :: S) h := Rb rfl fun _ => rfl
set_option maxRecDepth 100000 in
theorem e236_1679 {L : Lo} {S : List Value} {h : Hp} {x0 x1 x2 : Option Value} {v : Nat} : Run 236 1679 (x0 :: x1 :: x2 :: some (.ref v) :: L) S h = Run 236 1680 (x0 :: x1 :: x2 :: some (.ref v) :: L) (.ref v :: S) h := Rg rfl
set_option maxRecDepth 100000 in
theorem e236_1680 {L : Lo} {h : Hp} {a2 : Nat} {a1 : Int32} {a0 : Nat} : Run 236 1680 L [.ref a2, .int a1, .ref a0] h = (Run 234 0 [some (.ref a0), some (.int a1), some (.ref a2), none] [] h).bind fun o => aft 236 1680 1683 L [] o := Rc (c := 234) (As := [.ref a0, .int a1, .ref a2]) (S' := []) (pc' := 1683) rfl
set_option maxRecDepth 100000 in
theorem e236_1683 {L : Lo} {S : List Value} {h : Hp} {x0 x1 x2 x3 x4 x5 : Option Value} {y : Option Value} {v : Int32} : Run 236 1683 (x0 :: x1 :: x2 :: x3 :: x4 :: x5 :: y :: L) (.int v :: S) h = Run 236 1685 (x0 :: x1 :: x2 :: x3 :: x4 :: ck x5 :: some (.int v) :: L) S h := Rg rfl
set_option maxRecDepth 100000 in
theorem e236_1685 {L : Lo} {S : List Value} {h : Hp} {x0 x1 : Option Value} {v : Nat} : Run 236 1685 (x0 :: x1 :: some (.ref v) :: L) S h = Run 236 1686 (x0 :: x1 :: some (.ref v) :: L) (.ref v :: S) h := Rg rfl
set_option maxRecDepth 100000 in
theorem e236_1686 {L : Lo} {S : List Value} {h : Hp} {v : Nat} : Run 236 1686 (some (.ref v) :: L) S h = Run 236 1687 (some (.ref v) :: L) (.ref v :: S) h := Rg rfl
set_option maxRecDepth 100000 in
theorem e236_1687 {L : Lo} {S : List Value} {h : Hp} {x0 x1 x2 x3 x4 : Option Value} {v : Int32} : Run 236 1687 (x0 :: x1 :: x2 :: x3 :: x4 :: some (.int v) :: L) S h = Run 236 1689 (x0 :: x1 :: x2 :: x3 :: x4 :: some (.int v) :: L) (.int v :: S) h := Rg rfl
set_option maxRecDepth 100000 in
theorem e236_1689 {L : Lo} {S : List Value} {h : Hp} : Run 236 1689 L S h = Run 236 1690 L (.int 1 :: S) h := Rg rfl
set_option maxRecDepth 100000 in
theorem e236_1690 {L : Lo} {S : List Value} {h : Hp} {x z : Int32} : Run 236 1690 L (.int z :: .int x :: S) h = Run 236 1691 L (.int (x + z) :: S) h := Rg rfl
set_option maxRecDepth 100000 in
theorem e236_1691 {L : Lo} {S : List Value} {h : Hp} {i : Int32} {b : Nat} : Run 236 1691 L (.int i :: .ref b :: S) h = (gaI h b i).bind fun v => Run 236 1692 L (.int v :: S) h := Rb rfl fun _ => rfl
set_option maxRecDepth 100000 in
theorem e236_1692 {L : Lo} {h : Hp} {a1 : Int32} {a0 : Nat} (hO : isO h a0 9 = true) : Run 236 1692 L [.int a1, .ref a0] h = (Run 195 0 [some (.ref a0), some (.int a1)] [] h).bind fun o => aft 236 1692 1695 L [] o := Rcv (c := 195) (As := [.int a1]) (S' := []) (pc' := 1695) 9 rfl hO
set_option maxRecDepth 100000 in
theorem e236_1695 {L : Lo} {S : List Value} {h : Hp} {x0 x1 x2 x3 x4 x5 x6 : Option Value} {y : Option Value} {v : Int32} : Run 236 1695 (x0 :: x1 :: x2 :: x3 :: x4 :: x5 :: x6 :: y :: L) (.int v :: S) h = Run 236 1697 (x0 :: x1 :: x2 :: x3 :: x4 :: x5 :: ck x6 :: some (.int v) :: L) S h := Rg rfl
set_option maxRecDepth 100000 in
theorem e236_1697 {L : Lo} {S : List Value} {h : Hp} {x0 x1 : Option Value} {v : Nat} : Run 236 1697 (x0 :: x1 :: some (.ref v) :: L) S h = Run 236 1698 (x0 :: x1 :: some (.ref v) :: L) (.ref v :: S) h := Rg rfl
set_option maxRecDepth 100000 in
theorem e236_1698 {L : Lo} {h : Hp} {a0 : Nat} (hO : isO h a0 9 = true) : Run 236 1698 L [.ref a0] h = (Run 117 0 [some (.ref a0)] [] h).bind fun o => aft 236 1698 1701 L [] o := Rcv (c := 117) (As := []) (S' := []) (pc' := 1701) 9 rfl hO
set_option maxRecDepth 100000 in
theorem e236_1701 {L : Lo} {S : List Value} {h : Hp} {x0 x1 x2 x3 x4 x5 : Option Value} {v : Int32} : Run 236 1701 (x0 :: x1 :: x2 :: x3 :: x4 :: x5 :: some (.int v) :: L) S h = Run 236 1703 (x0 :: x1 :: x2 :: x3 :: x4 :: x5 :: some (.int v) :: L) (.int v :: S) h := Rg rfl
set_option maxRecDepth 100000 in
theorem e236_1703 {L : Lo} {S : List Value} {h : Hp} {x z : Int32} : Run 236 1703 L (.int z :: .int x :: S) h = if x = z then Run 236 1708 L S h else Run 236 1706 L S h := Rbr (c := cnd .eq x z = true) (off := 5) rfl rfl cnd_eq
set_option maxRecDepth 100000 in
theorem e236_1706 {L : Lo} {S : List Value} {h : Hp} : Run 236 1706 L S h = Run 236 1707 L (.int 0 :: S) h := Rg rfl
set_option maxRecDepth 100000 in
theorem e236_1707 {L : Lo} {h : Hp} {x : Int32} (hx : narrow .boolean (.int x) = .int x) : Run 236 1707 L [.int x] h = some (.inl (some (.int x)), h) := Rd (if_pos hx)
set_option maxRecDepth 100000 in
theorem e236_1708 {L : Lo} {S : List Value} {h : Hp} {x0 x1 x2 x3 x4 x5 : Option Value} {v : Int32} : Run 236 1708 (x0 :: x1 :: x2 :: x3 :: x4 :: x5 :: some (.int v) :: L) S h = Run 236 1710 (x0 :: x1 :: x2 :: x3 :: x4 :: x5 :: some (.int v) :: L) (.int v :: S) h := Rg rfl
set_option maxRecDepth 100000 in
theorem e236_1710 {L : Lo} {S : List Value} {h : Hp} {x : Int32} : Run 236 1710 L (.int x :: S) h = if x = 0 then Run 236 1713 L S h else Run 236 1725 L S h := RbrN (c := cnd .ne x 0 = true) (off := 15) rfl rfl cnd_ne
set_option maxRecDepth 100000 in
theorem e236_1713 {L : Lo} {S : List Value} {h : Hp} {x0 x1 x2 : Option Value} {v : Nat} : Run 236 1713 (x0 :: x1 :: x2 :: some (.ref v) :: L) S h = Run 236 1714 (x0 :: x1 :: x2 :: some (.ref v) :: L) (.ref v :: S) h := Rg rfl
set_option maxRecDepth 100000 in
theorem e236_1714 {L : Lo} {S : List Value} {h : Hp} : Run 236 1714 L S h = Run 236 1715 L (.int 0 :: S) h := Rg rfl
set_option maxRecDepth 100000 in
theorem e236_1715 {L : Lo} {S : List Value} {h : Hp} {i : Int32} {b : Nat} : Run 236 1715 L (.int i :: .ref b :: S) h = (gaJ h b i).bind fun v => Run 236 1716 L (.long v :: S) h := Rb rfl fun _ => rfl
set_option maxRecDepth 100000 in
theorem e236_1716 {L : Lo} {S : List Value} {h : Hp} {x0 x1 x2 x3 x4 x5 x6 : Option Value} {v : Int32} : Run 236 1716 (x0 :: x1 :: x2 :: x3 :: x4 :: x5 :: x6 :: some (.int v) :: L) S h = Run 236 1718 (x0 :: x1 :: x2 :: x3 :: x4 :: x5 :: x6 :: some (.int v) :: L) (.int v :: S) h := Rg rfl
set_option maxRecDepth 100000 in
theorem e236_1718 {L : Lo} {S : List Value} {h : Hp} {x : Int32} : Run 236 1718 L (.int x :: S) h = Run 236 1719 L (.long x.toInt64 :: S) h := Rg rfl
set_option maxRecDepth 100000 in
theorem e236_1719 {L : Lo} {S : List Value} {h : Hp} {x z : Int64} : Run 236 1719 L (.long z :: .long x :: S) h = Run 236 1720 L (.int (lg_cmp x z) :: S) h := Rg rfl
set_option maxRecDepth 100000 in
theorem e236_1720 {L : Lo} {S : List Value} {h : Hp} {x : Int32} : Run 236 1720 L (.int x :: S) h = if x = 0 then Run 236 1725 L S h else Run 236 1723 L S h := Rbr (c := cnd .eq x 0 = true) (off := 5) rfl rfl cnd_eq
set_option maxRecDepth 100000 in
theorem e236_1723 {L : Lo} {S : List Value} {h : Hp} : Run 236 1723 L S h = Run 236 1724 L (.int 0 :: S) h := Rg rfl
set_option maxRecDepth 100000 in
theorem e236_1724 {L : Lo} {h : Hp} {x : Int32} (hx : narrow .boolean (.int x) = .int x) : Run 236 1724 L [.int x] h = some (.inl (some (.int x)), h) := Rd (if_pos hx)
set_option maxRecDepth 100000 in
theorem e236_1725 {L : Lo} {S : List Value} {h : Hp} : Run 236 1725 L S h = Run 236 1812 L S h := Rg rfl
set_option maxRecDepth 100000 in
theorem e236_1728 {L : Lo} {S : List Value} {h : Hp} {x0 : Option Value} {v : Nat} : Run 236 1728 (x0 :: some (.ref v) :: L) S h = Run 236 1729 (x0 :: some (.ref v) :: L) (.ref v :: S) h := Rg rfl
set_option maxRecDepth 100000 in
theorem e236_1729 {L : Lo} {h : Hp} {a0 : Nat} (hO : isO h a0 8 = true) : Run 236 1729 L [.ref a0] h = (Run 106 0 [some (.ref a0), none] [] h).bind fun o => aft 236 1729 1732 L [] o := Rcv (c := 106) (As := []) (S' := []) (pc' := 1732) 8 rfl hO
set_option maxRecDepth 100000 in
theorem e236_1732 {L : Lo} {S : List Value} {h : Hp} {x0 x1 : Option Value} {v : Nat} : Run 236 1732 (x0 :: x1 :: some (.ref v) :: L) S h = Run 236 1733 (x0 :: x1 :: some (.ref v) :: L) (.ref v :: S) h := Rg rfl
set_option maxRecDepth 100000 in
theorem e236_1733 {L : Lo} {h : Hp} {a1 : Nat} {a0 : Int32} (hO : isO h a1 9 = true) : Run 236 1733 L [.ref a1, .int a0] h = (Run 196 0 [some (.ref a1), none] [] h).bind fun o => aft 236 1733 1736 L [.int a0] o := Rcv (c := 196) (As := []) (S' := [.int a0]) (pc' := 1736) 9 rfl hO
set_option maxRecDepth 100000 in
theorem e236_1736 {L : Lo} {S : List Value} {h : Hp} {x z : Int32} : Run 236 1736 L (.int z :: .int x :: S) h = if x = z then Run 236 1812 L S h else Run 236 1739 L S h := Rbr (c := cnd .eq x z = true) (off := 76) rfl rfl cnd_eq
set_option maxRecDepth 100000 in
theorem e236_1739 {L : Lo} {S : List Value} {h : Hp} : Run 236 1739 L S h = Run 236 1740 L (.int 0 :: S) h := Rg rfl
set_option maxRecDepth 100000 in
theorem e236_1740 {L : Lo} {h : Hp} {x : Int32} (hx : narrow .boolean (.int x) = .int x) : Run 236 1740 L [.int x] h = some (.inl (some (.int x)), h) := Rd (if_pos hx)
set_option maxRecDepth 100000 in
theorem e236_1741 {L : Lo} {S : List Value} {h : Hp} {x0 : Option Value} {v : Nat} : Run 236 1741 (x0 :: some (.ref v) :: L) S h = Run 236 1742 (x0 :: some (.ref v) :: L) (.ref v :: S) h := Rg rfl
set_option maxRecDepth 100000 in
theorem e236_1742 {L : Lo} {h : Hp} {a0 : Nat} (hO : isO h a0 8 = true) : Run 236 1742 L [.ref a0] h = (Run 107 0 [some (.ref a0), none, none, none] [] h).bind fun o => aft 236 1742 1745 L [] o := Rcv (c := 107) (As := []) (S' := []) (pc' := 1745) 8 rfl hO
set_option maxRecDepth 100000 in
theorem e236_1745 {L : Lo} {S : List Value} {h : Hp} {x0 x1 : Option Value} {v : Nat} : Run 236 1745 (x0 :: x1 :: some (.ref v) :: L) S h = Run 236 1746 (x0 :: x1 :: some (.ref v) :: L) (.ref v :: S) h := Rg rfl
set_option maxRecDepth 100000 in
theorem e236_1746 {L : Lo} {h : Hp} {a1 : Nat} {a0 : Int32} (hO : isO h a1 9 = true) : Run 236 1746 L [.ref a1, .int a0] h = (Run 204 0 [some (.ref a1), none, none, none] [] h).bind fun o => aft 236 1746 1749 L [.int a0] o := Rcv (c := 204) (As := []) (S' := [.int a0]) (pc' := 1749) 9 rfl hO
set_option maxRecDepth 100000 in
theorem e236_1749 {L : Lo} {S : List Value} {h : Hp} {x z : Int32} : Run 236 1749 L (.int z :: .int x :: S) h = if x = z then Run 236 1812 L S h else Run 236 1752 L S h := Rbr (c := cnd .eq x z = true) (off := 63) rfl rfl cnd_eq
set_option maxRecDepth 100000 in
theorem e236_1752 {L : Lo} {S : List Value} {h : Hp} : Run 236 1752 L S h = Run 236 1753 L (.int 0 :: S) h := Rg rfl
set_option maxRecDepth 100000 in
theorem e236_1753 {L : Lo} {h : Hp} {x : Int32} (hx : narrow .boolean (.int x) = .int x) : Run 236 1753 L [.int x] h = some (.inl (some (.int x)), h) := Rd (if_pos hx)
set_option maxRecDepth 100000 in
theorem e236_1754 {L : Lo} {S : List Value} {h : Hp} {x0 : Option Value} {v : Nat} : Run 236 1754 (x0 :: some (.ref v) :: L) S h = Run 236 1755 (x0 :: some (.ref v) :: L) (.ref v :: S) h := Rg rfl
set_option maxRecDepth 100000 in
theorem e236_1755 {L : Lo} {S : List Value} {h : Hp} {x0 x1 x2 : Option Value} {v : Nat} : Run 236 1755 (x0 :: x1 :: x2 :: some (.ref v) :: L) S h = Run 236 1756 (x0 :: x1 :: x2 :: some (.ref v) :: L) (.ref v :: S) h := Rg rfl
set_option maxRecDepth 100000 in
theorem e236_1756 {L : Lo} {h : Hp} {a1 : Nat} {a0 : Nat} : Run 236 1756 L [.ref a1, .ref a0] h = (Run 235 0 [some (.ref a0), some (.ref a1), none] [] h).bind fun o => aft 236 1756 1759 L [] o := Rc (c := 235) (As := [.ref a0, .ref a1]) (S' := []) (pc' := 1759) rfl
set_option maxRecDepth 100000 in
theorem e236_1759 {L : Lo} {S : List Value} {h : Hp} {x0 x1 x2 x3 x4 x5 : Option Value} {y : Option Value} {v : Int32} : Run 236 1759 (x0 :: x1 :: x2 :: x3 :: x4 :: x5 :: y :: L) (.int v :: S) h = Run 236 1761 (x0 :: x1 :: x2 :: x3 :: x4 :: ck x5 :: some (.int v) :: L) S h := Rg rfl
set_option maxRecDepth 100000 in
theorem e236_1761 {L : Lo} {S : List Value} {h : Hp} {x0 x1 : Option Value} {v : Nat} : Run 236 1761 (x0 :: x1 :: some (.ref v) :: L) S h = Run 236 1762 (x0 :: x1 :: some (.ref v) :: L) (.ref v :: S) h := Rg rfl
set_option maxRecDepth 100000 in
theorem e236_1762 {L : Lo} {h : Hp} {a0 : Nat} (hO : isO h a0 9 = true) : Run 236 1762 L [.ref a0] h = (Run 205 0 [some (.ref a0), none] [] h).bind fun o => aft 236 1762 1765 L [] o := Rcv (c := 205) (As := []) (S' := []) (pc' := 1765) 9 rfl hO
set_option maxRecDepth 100000 in
theorem e236_1765 {L : Lo} {S : List Value} {h : Hp} {x0 x1 x2 x3 x4 x5 x6 : Option Value} {y : Option Value} {v : Int32} : Run 236 1765 (x0 :: x1 :: x2 :: x3 :: x4 :: x5 :: x6 :: y :: L) (.int v :: S) h = Run 236 1767 (x0 :: x1 :: x2 :: x3 :: x4 :: x5 :: ck x6 :: some (.int v) :: L) S h := Rg rfl
set_option maxRecDepth 100000 in
theorem e236_1767 {L : Lo} {S : List Value} {h : Hp} {x0 x1 : Option Value} {v : Nat} : Run 236 1767 (x0 :: x1 :: some (.ref v) :: L) S h = Run 236 1768 (x0 :: x1 :: some (.ref v) :: L) (.ref v :: S) h := Rg rfl
set_option maxRecDepth 100000 in
theorem e236_1768 {L : Lo} {h : Hp} {a0 : Nat} (hO : isO h a0 9 = true) : Run 236 1768 L [.ref a0] h = (Run 117 0 [some (.ref a0)] [] h).bind fun o => aft 236 1768 1771 L [] o := Rcv (c := 117) (As := []) (S' := []) (pc' := 1771) 9 rfl hO
set_option maxRecDepth 100000 in
theorem e236_1771 {L : Lo} {S : List Value} {h : Hp} {x0 x1 x2 x3 x4 x5 : Option Value} {v : Int32} : Run 236 1771 (x0 :: x1 :: x2 :: x3 :: x4 :: x5 :: some (.int v) :: L) S h = Run 236 1773 (x0 :: x1 :: x2 :: x3 :: x4 :: x5 :: some (.int v) :: L) (.int v :: S) h := Rg rfl
set_option maxRecDepth 100000 in
theorem e236_1773 {L : Lo} {S : List Value} {h : Hp} {x z : Int32} : Run 236 1773 L (.int z :: .int x :: S) h = if x = z then Run 236 1778 L S h else Run 236 1776 L S h := Rbr (c := cnd .eq x z = true) (off := 5) rfl rfl cnd_eq
set_option maxRecDepth 100000 in
theorem e236_1776 {L : Lo} {S : List Value} {h : Hp} : Run 236 1776 L S h = Run 236 1777 L (.int 0 :: S) h := Rg rfl
set_option maxRecDepth 100000 in
theorem e236_1777 {L : Lo} {h : Hp} {x : Int32} (hx : narrow .boolean (.int x) = .int x) : Run 236 1777 L [.int x] h = some (.inl (some (.int x)), h) := Rd (if_pos hx)
set_option maxRecDepth 100000 in
theorem e236_1778 {L : Lo} {S : List Value} {h : Hp} {x0 x1 x2 x3 x4 x5 : Option Value} {v : Int32} : Run 236 1778 (x0 :: x1 :: x2 :: x3 :: x4 :: x5 :: some (.int v) :: L) S h = Run 236 1780 (x0 :: x1 :: x2 :: x3 :: x4 :: x5 :: some (.int v) :: L) (.int v :: S) h := Rg rfl
set_option maxRecDepth 100000 in
theorem e236_1780 {L : Lo} {S : List Value} {h : Hp} {x : Int32} : Run 236 1780 L (.int x :: S) h = if x = 0 then Run 236 1783 L S h else Run 236 1795 L S h := RbrN (c := cnd .ne x 0 = true) (off := 15) rfl rfl cnd_ne
set_option maxRecDepth 100000 in
theorem e236_1783 {L : Lo} {S : List Value} {h : Hp} {x0 x1 x2 : Option Value} {v : Nat} : Run 236 1783 (x0 :: x1 :: x2 :: some (.ref v) :: L) S h = Run 236 1784 (x0 :: x1 :: x2 :: some (.ref v) :: L) (.ref v :: S) h := Rg rfl
set_option maxRecDepth 100000 in
theorem e236_1784 {L : Lo} {S : List Value} {h : Hp} : Run 236 1784 L S h = Run 236 1785 L (.int 0 :: S) h := Rg rfl
set_option maxRecDepth 100000 in
theorem e236_1785 {L : Lo} {S : List Value} {h : Hp} {i : Int32} {b : Nat} : Run 236 1785 L (.int i :: .ref b :: S) h = (gaJ h b i).bind fun v => Run 236 1786 L (.long v :: S) h := Rb rfl fun _ => rfl
set_option maxRecDepth 100000 in
theorem e236_1786 {L : Lo} {S : List Value} {h : Hp} {x0 x1 x2 x3 x4 x5 x6 : Option Value} {v : Int32} : Run 236 1786 (x0 :: x1 :: x2 :: x3 :: x4 :: x5 :: x6 :: some (.int v) :: L) S h = Run 236 1788 (x0 :: x1 :: x2 :: x3 :: x4 :: x5 :: x6 :: some (.int v) :: L) (.int v :: S) h := Rg rfl
set_option maxRecDepth 100000 in
theorem e236_1788 {L : Lo} {S : List Value} {h : Hp} {x : Int32} : Run 236 1788 L (.int x :: S) h = Run 236 1789 L (.long x.toInt64 :: S) h := Rg rfl
set_option maxRecDepth 100000 in
theorem e236_1789 {L : Lo} {S : List Value} {h : Hp} {x z : Int64} : Run 236 1789 L (.long z :: .long x :: S) h = Run 236 1790 L (.int (lg_cmp x z) :: S) h := Rg rfl
set_option maxRecDepth 100000 in
theorem e236_1790 {L : Lo} {S : List Value} {h : Hp} {x : Int32} : Run 236 1790 L (.int x :: S) h = if x = 0 then Run 236 1795 L S h else Run 236 1793 L S h := Rbr (c := cnd .eq x 0 = true) (off := 5) rfl rfl cnd_eq
set_option maxRecDepth 100000 in
theorem e236_1793 {L : Lo} {S : List Value} {h : Hp} : Run 236 1793 L S h = Run 236 1794 L (.int 0 :: S) h := Rg rfl
set_option maxRecDepth 100000 in
theorem e236_1794 {L : Lo} {h : Hp} {x : Int32} (hx : narrow .boolean (.int x) = .int x) : Run 236 1794 L [.int x] h = some (.inl (some (.int x)), h) := Rd (if_pos hx)
set_option maxRecDepth 100000 in
theorem e236_1795 {L : Lo} {S : List Value} {h : Hp} : Run 236 1795 L S h = Run 236 1812 L S h := Rg rfl
set_option maxRecDepth 100000 in
theorem e236_1798 {L : Lo} {S : List Value} {h : Hp} {x0 : Option Value} {v : Nat} : Run 236 1798 (x0 :: some (.ref v) :: L) S h = Run 236 1799 (x0 :: some (.ref v) :: L) (.ref v :: S) h := Rg rfl
set_option maxRecDepth 100000 in
theorem e236_1799 {L : Lo} {h : Hp} {a0 : Nat} (hO : isO h a0 8 = true) : Run 236 1799 L [.ref a0] h = (Run 109 0 [some (.ref a0), none, none, none, none] [] h).bind fun o => aft 236 1799 1802 L [] o := Rcv (c := 109) (As := []) (S' := []) (pc' := 1802) 8 rfl hO
set_option maxRecDepth 100000 in
theorem e236_1802 {L : Lo} {S : List Value} {h : Hp} {x0 x1 : Option Value} {v : Nat} : Run 236 1802 (x0 :: x1 :: some (.ref v) :: L) S h = Run 236 1803 (x0 :: x1 :: some (.ref v) :: L) (.ref v :: S) h := Rg rfl
set_option maxRecDepth 100000 in
theorem e236_1803 {L : Lo} {h : Hp} {a1 : Nat} {a0 : Int64} (hO : isO h a1 9 = true) : Run 236 1803 L [.ref a1, .long a0] h = (Run 207 0 [some (.ref a1), none, none] [] h).bind fun o => aft 236 1803 1806 L [.long a0] o := Rcv (c := 207) (As := []) (S' := [.long a0]) (pc' := 1806) 9 rfl hO
set_option maxRecDepth 100000 in
theorem e236_1806 {L : Lo} {S : List Value} {h : Hp} {x z : Int64} : Run 236 1806 L (.long z :: .long x :: S) h = Run 236 1807 L (.int (lg_cmp x z) :: S) h := Rg rfl
set_option maxRecDepth 100000 in
theorem e236_1807 {L : Lo} {S : List Value} {h : Hp} {x : Int32} : Run 236 1807 L (.int x :: S) h = if x = 0 then Run 236 1812 L S h else Run 236 1810 L S h := Rbr (c := cnd .eq x 0 = true) (off := 5) rfl rfl cnd_eq
set_option maxRecDepth 100000 in
theorem e236_1810 {L : Lo} {S : List Value} {h : Hp} : Run 236 1810 L S h = Run 236 1811 L (.int 0 :: S) h := Rg rfl
set_option maxRecDepth 100000 in
theorem e236_1811 {L : Lo} {h : Hp} {x : Int32} (hx : narrow .boolean (.int x) = .int x) : Run 236 1811 L [.int x] h = some (.inl (some (.int x)), h) := Rd (if_pos hx)
set_option maxRecDepth 100000 in
theorem e236_1812 {L : Lo} {S : List Value} {h : Hp} {x0 x1 x2 x3 x4 : Option Value} {v : Int32} : Run 236 1812 (x0 :: x1 :: x2 :: x3 :: x4 :: some (.int v) :: L) S h = Run 236 1815 (x0 :: x1 :: x2 :: x3 :: x4 :: some (.int (v + 7)) :: L) S h := Rg rfl
set_option maxRecDepth 100000 in
theorem e236_1815 {L : Lo} {S : List Value} {h : Hp} : Run 236 1815 L S h = Run 236 28 L S h := Rg rfl
set_option maxRecDepth 100000 in
theorem e236_1818 {L : Lo} {S : List Value} {h : Hp} : Run 236 1818 L S h = Run 236 1819 L (.int 1 :: S) h := Rg rfl
set_option maxRecDepth 100000 in
theorem e236_1819 {L : Lo} {h : Hp} {x : Int32} (hx : narrow .boolean (.int x) = .int x) : Run 236 1819 L [.int x] h = some (.inl (some (.int x)), h) := Rd (if_pos hx)
