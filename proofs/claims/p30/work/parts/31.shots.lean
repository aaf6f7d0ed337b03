/-! shots, boarding, orders -/
theorem up2_rr (α : Mem) (a k : Nat) (v : Int32) : up2 α a k v a k = v := by rw [up2_at, upd_at]
theorem u0_1 (α : Mem) (a : Nat) (v : Int32) : up2 α a 0 v a 1 = α a 1 := up2_rd α a 0 1 v (by decide)
theorem u0_2 (α : Mem) (a : Nat) (v : Int32) : up2 α a 0 v a 2 = α a 2 := up2_rd α a 0 2 v (by decide)
theorem u0_3 (α : Mem) (a : Nat) (v : Int32) : up2 α a 0 v a 3 = α a 3 := up2_rd α a 0 3 v (by decide)
theorem u0_4 (α : Mem) (a : Nat) (v : Int32) : up2 α a 0 v a 4 = α a 4 := up2_rd α a 0 4 v (by decide)
theorem u0_5 (α : Mem) (a : Nat) (v : Int32) : up2 α a 0 v a 5 = α a 5 := up2_rd α a 0 5 v (by decide)
theorem u0_6 (α : Mem) (a : Nat) (v : Int32) : up2 α a 0 v a 6 = α a 6 := up2_rd α a 0 6 v (by decide)
theorem u0_7 (α : Mem) (a : Nat) (v : Int32) : up2 α a 0 v a 7 = α a 7 := up2_rd α a 0 7 v (by decide)
theorem u0_8 (α : Mem) (a : Nat) (v : Int32) : up2 α a 0 v a 8 = α a 8 := up2_rd α a 0 8 v (by decide)
theorem u0_9 (α : Mem) (a : Nat) (v : Int32) : up2 α a 0 v a 9 = α a 9 := up2_rd α a 0 9 v (by decide)
theorem u0_10 (α : Mem) (a : Nat) (v : Int32) : up2 α a 0 v a 10 = α a 10 := up2_rd α a 0 10 v (by decide)
theorem u0_11 (α : Mem) (a : Nat) (v : Int32) : up2 α a 0 v a 11 = α a 11 := up2_rd α a 0 11 v (by decide)
theorem u0_12 (α : Mem) (a : Nat) (v : Int32) : up2 α a 0 v a 12 = α a 12 := up2_rd α a 0 12 v (by decide)
theorem u0_13 (α : Mem) (a : Nat) (v : Int32) : up2 α a 0 v a 13 = α a 13 := up2_rd α a 0 13 v (by decide)
theorem u0_14 (α : Mem) (a : Nat) (v : Int32) : up2 α a 0 v a 14 = α a 14 := up2_rd α a 0 14 v (by decide)
theorem u1_0 (α : Mem) (a : Nat) (v : Int32) : up2 α a 1 v a 0 = α a 0 := up2_rd α a 1 0 v (by decide)
theorem u1_2 (α : Mem) (a : Nat) (v : Int32) : up2 α a 1 v a 2 = α a 2 := up2_rd α a 1 2 v (by decide)
theorem u1_3 (α : Mem) (a : Nat) (v : Int32) : up2 α a 1 v a 3 = α a 3 := up2_rd α a 1 3 v (by decide)
theorem u1_4 (α : Mem) (a : Nat) (v : Int32) : up2 α a 1 v a 4 = α a 4 := up2_rd α a 1 4 v (by decide)
theorem u1_5 (α : Mem) (a : Nat) (v : Int32) : up2 α a 1 v a 5 = α a 5 := up2_rd α a 1 5 v (by decide)
theorem u1_6 (α : Mem) (a : Nat) (v : Int32) : up2 α a 1 v a 6 = α a 6 := up2_rd α a 1 6 v (by decide)
theorem u1_7 (α : Mem) (a : Nat) (v : Int32) : up2 α a 1 v a 7 = α a 7 := up2_rd α a 1 7 v (by decide)
theorem u1_8 (α : Mem) (a : Nat) (v : Int32) : up2 α a 1 v a 8 = α a 8 := up2_rd α a 1 8 v (by decide)
theorem u1_9 (α : Mem) (a : Nat) (v : Int32) : up2 α a 1 v a 9 = α a 9 := up2_rd α a 1 9 v (by decide)
theorem u1_10 (α : Mem) (a : Nat) (v : Int32) : up2 α a 1 v a 10 = α a 10 := up2_rd α a 1 10 v (by decide)
theorem u1_11 (α : Mem) (a : Nat) (v : Int32) : up2 α a 1 v a 11 = α a 11 := up2_rd α a 1 11 v (by decide)
theorem u1_12 (α : Mem) (a : Nat) (v : Int32) : up2 α a 1 v a 12 = α a 12 := up2_rd α a 1 12 v (by decide)
theorem u1_13 (α : Mem) (a : Nat) (v : Int32) : up2 α a 1 v a 13 = α a 13 := up2_rd α a 1 13 v (by decide)
theorem u1_14 (α : Mem) (a : Nat) (v : Int32) : up2 α a 1 v a 14 = α a 14 := up2_rd α a 1 14 v (by decide)
theorem u2_0 (α : Mem) (a : Nat) (v : Int32) : up2 α a 2 v a 0 = α a 0 := up2_rd α a 2 0 v (by decide)
theorem u2_1 (α : Mem) (a : Nat) (v : Int32) : up2 α a 2 v a 1 = α a 1 := up2_rd α a 2 1 v (by decide)
theorem u2_3 (α : Mem) (a : Nat) (v : Int32) : up2 α a 2 v a 3 = α a 3 := up2_rd α a 2 3 v (by decide)
theorem u2_4 (α : Mem) (a : Nat) (v : Int32) : up2 α a 2 v a 4 = α a 4 := up2_rd α a 2 4 v (by decide)
theorem u2_5 (α : Mem) (a : Nat) (v : Int32) : up2 α a 2 v a 5 = α a 5 := up2_rd α a 2 5 v (by decide)
theorem u2_6 (α : Mem) (a : Nat) (v : Int32) : up2 α a 2 v a 6 = α a 6 := up2_rd α a 2 6 v (by decide)
theorem u2_7 (α : Mem) (a : Nat) (v : Int32) : up2 α a 2 v a 7 = α a 7 := up2_rd α a 2 7 v (by decide)
theorem u2_8 (α : Mem) (a : Nat) (v : Int32) : up2 α a 2 v a 8 = α a 8 := up2_rd α a 2 8 v (by decide)
theorem u2_9 (α : Mem) (a : Nat) (v : Int32) : up2 α a 2 v a 9 = α a 9 := up2_rd α a 2 9 v (by decide)
theorem u2_10 (α : Mem) (a : Nat) (v : Int32) : up2 α a 2 v a 10 = α a 10 := up2_rd α a 2 10 v (by decide)
theorem u2_11 (α : Mem) (a : Nat) (v : Int32) : up2 α a 2 v a 11 = α a 11 := up2_rd α a 2 11 v (by decide)
theorem u2_12 (α : Mem) (a : Nat) (v : Int32) : up2 α a 2 v a 12 = α a 12 := up2_rd α a 2 12 v (by decide)
theorem u2_13 (α : Mem) (a : Nat) (v : Int32) : up2 α a 2 v a 13 = α a 13 := up2_rd α a 2 13 v (by decide)
theorem u2_14 (α : Mem) (a : Nat) (v : Int32) : up2 α a 2 v a 14 = α a 14 := up2_rd α a 2 14 v (by decide)
theorem u3_0 (α : Mem) (a : Nat) (v : Int32) : up2 α a 3 v a 0 = α a 0 := up2_rd α a 3 0 v (by decide)
theorem u3_1 (α : Mem) (a : Nat) (v : Int32) : up2 α a 3 v a 1 = α a 1 := up2_rd α a 3 1 v (by decide)
theorem u3_2 (α : Mem) (a : Nat) (v : Int32) : up2 α a 3 v a 2 = α a 2 := up2_rd α a 3 2 v (by decide)
theorem u3_4 (α : Mem) (a : Nat) (v : Int32) : up2 α a 3 v a 4 = α a 4 := up2_rd α a 3 4 v (by decide)
theorem u3_5 (α : Mem) (a : Nat) (v : Int32) : up2 α a 3 v a 5 = α a 5 := up2_rd α a 3 5 v (by decide)
theorem u3_6 (α : Mem) (a : Nat) (v : Int32) : up2 α a 3 v a 6 = α a 6 := up2_rd α a 3 6 v (by decide)
theorem u3_7 (α : Mem) (a : Nat) (v : Int32) : up2 α a 3 v a 7 = α a 7 := up2_rd α a 3 7 v (by decide)
theorem u3_8 (α : Mem) (a : Nat) (v : Int32) : up2 α a 3 v a 8 = α a 8 := up2_rd α a 3 8 v (by decide)
theorem u3_9 (α : Mem) (a : Nat) (v : Int32) : up2 α a 3 v a 9 = α a 9 := up2_rd α a 3 9 v (by decide)
theorem u3_10 (α : Mem) (a : Nat) (v : Int32) : up2 α a 3 v a 10 = α a 10 := up2_rd α a 3 10 v (by decide)
theorem u3_11 (α : Mem) (a : Nat) (v : Int32) : up2 α a 3 v a 11 = α a 11 := up2_rd α a 3 11 v (by decide)
theorem u3_12 (α : Mem) (a : Nat) (v : Int32) : up2 α a 3 v a 12 = α a 12 := up2_rd α a 3 12 v (by decide)
theorem u3_13 (α : Mem) (a : Nat) (v : Int32) : up2 α a 3 v a 13 = α a 13 := up2_rd α a 3 13 v (by decide)
theorem u3_14 (α : Mem) (a : Nat) (v : Int32) : up2 α a 3 v a 14 = α a 14 := up2_rd α a 3 14 v (by decide)
theorem u4_0 (α : Mem) (a : Nat) (v : Int32) : up2 α a 4 v a 0 = α a 0 := up2_rd α a 4 0 v (by decide)
theorem u4_1 (α : Mem) (a : Nat) (v : Int32) : up2 α a 4 v a 1 = α a 1 := up2_rd α a 4 1 v (by decide)
theorem u4_2 (α : Mem) (a : Nat) (v : Int32) : up2 α a 4 v a 2 = α a 2 := up2_rd α a 4 2 v (by decide)
theorem u4_3 (α : Mem) (a : Nat) (v : Int32) : up2 α a 4 v a 3 = α a 3 := up2_rd α a 4 3 v (by decide)
theorem u4_5 (α : Mem) (a : Nat) (v : Int32) : up2 α a 4 v a 5 = α a 5 := up2_rd α a 4 5 v (by decide)
theorem u4_6 (α : Mem) (a : Nat) (v : Int32) : up2 α a 4 v a 6 = α a 6 := up2_rd α a 4 6 v (by decide)
theorem u4_7 (α : Mem) (a : Nat) (v : Int32) : up2 α a 4 v a 7 = α a 7 := up2_rd α a 4 7 v (by decide)
theorem u4_8 (α : Mem) (a : Nat) (v : Int32) : up2 α a 4 v a 8 = α a 8 := up2_rd α a 4 8 v (by decide)
theorem u4_9 (α : Mem) (a : Nat) (v : Int32) : up2 α a 4 v a 9 = α a 9 := up2_rd α a 4 9 v (by decide)
theorem u4_10 (α : Mem) (a : Nat) (v : Int32) : up2 α a 4 v a 10 = α a 10 := up2_rd α a 4 10 v (by decide)
theorem u4_11 (α : Mem) (a : Nat) (v : Int32) : up2 α a 4 v a 11 = α a 11 := up2_rd α a 4 11 v (by decide)
theorem u4_12 (α : Mem) (a : Nat) (v : Int32) : up2 α a 4 v a 12 = α a 12 := up2_rd α a 4 12 v (by decide)
theorem u4_13 (α : Mem) (a : Nat) (v : Int32) : up2 α a 4 v a 13 = α a 13 := up2_rd α a 4 13 v (by decide)
theorem u4_14 (α : Mem) (a : Nat) (v : Int32) : up2 α a 4 v a 14 = α a 14 := up2_rd α a 4 14 v (by decide)
theorem u5_0 (α : Mem) (a : Nat) (v : Int32) : up2 α a 5 v a 0 = α a 0 := up2_rd α a 5 0 v (by decide)
theorem u5_1 (α : Mem) (a : Nat) (v : Int32) : up2 α a 5 v a 1 = α a 1 := up2_rd α a 5 1 v (by decide)
theorem u5_2 (α : Mem) (a : Nat) (v : Int32) : up2 α a 5 v a 2 = α a 2 := up2_rd α a 5 2 v (by decide)
theorem u5_3 (α : Mem) (a : Nat) (v : Int32) : up2 α a 5 v a 3 = α a 3 := up2_rd α a 5 3 v (by decide)
theorem u5_4 (α : Mem) (a : Nat) (v : Int32) : up2 α a 5 v a 4 = α a 4 := up2_rd α a 5 4 v (by decide)
theorem u5_6 (α : Mem) (a : Nat) (v : Int32) : up2 α a 5 v a 6 = α a 6 := up2_rd α a 5 6 v (by decide)
theorem u5_7 (α : Mem) (a : Nat) (v : Int32) : up2 α a 5 v a 7 = α a 7 := up2_rd α a 5 7 v (by decide)
theorem u5_8 (α : Mem) (a : Nat) (v : Int32) : up2 α a 5 v a 8 = α a 8 := up2_rd α a 5 8 v (by decide)
theorem u5_9 (α : Mem) (a : Nat) (v : Int32) : up2 α a 5 v a 9 = α a 9 := up2_rd α a 5 9 v (by decide)
theorem u5_10 (α : Mem) (a : Nat) (v : Int32) : up2 α a 5 v a 10 = α a 10 := up2_rd α a 5 10 v (by decide)
theorem u5_11 (α : Mem) (a : Nat) (v : Int32) : up2 α a 5 v a 11 = α a 11 := up2_rd α a 5 11 v (by decide)
theorem u5_12 (α : Mem) (a : Nat) (v : Int32) : up2 α a 5 v a 12 = α a 12 := up2_rd α a 5 12 v (by decide)
theorem u5_13 (α : Mem) (a : Nat) (v : Int32) : up2 α a 5 v a 13 = α a 13 := up2_rd α a 5 13 v (by decide)
theorem u5_14 (α : Mem) (a : Nat) (v : Int32) : up2 α a 5 v a 14 = α a 14 := up2_rd α a 5 14 v (by decide)
theorem u6_0 (α : Mem) (a : Nat) (v : Int32) : up2 α a 6 v a 0 = α a 0 := up2_rd α a 6 0 v (by decide)
theorem u6_1 (α : Mem) (a : Nat) (v : Int32) : up2 α a 6 v a 1 = α a 1 := up2_rd α a 6 1 v (by decide)
theorem u6_2 (α : Mem) (a : Nat) (v : Int32) : up2 α a 6 v a 2 = α a 2 := up2_rd α a 6 2 v (by decide)
theorem u6_3 (α : Mem) (a : Nat) (v : Int32) : up2 α a 6 v a 3 = α a 3 := up2_rd α a 6 3 v (by decide)
theorem u6_4 (α : Mem) (a : Nat) (v : Int32) : up2 α a 6 v a 4 = α a 4 := up2_rd α a 6 4 v (by decide)
theorem u6_5 (α : Mem) (a : Nat) (v : Int32) : up2 α a 6 v a 5 = α a 5 := up2_rd α a 6 5 v (by decide)
theorem u6_7 (α : Mem) (a : Nat) (v : Int32) : up2 α a 6 v a 7 = α a 7 := up2_rd α a 6 7 v (by decide)
theorem u6_8 (α : Mem) (a : Nat) (v : Int32) : up2 α a 6 v a 8 = α a 8 := up2_rd α a 6 8 v (by decide)
theorem u6_9 (α : Mem) (a : Nat) (v : Int32) : up2 α a 6 v a 9 = α a 9 := up2_rd α a 6 9 v (by decide)
theorem u6_10 (α : Mem) (a : Nat) (v : Int32) : up2 α a 6 v a 10 = α a 10 := up2_rd α a 6 10 v (by decide)
theorem u6_11 (α : Mem) (a : Nat) (v : Int32) : up2 α a 6 v a 11 = α a 11 := up2_rd α a 6 11 v (by decide)
theorem u6_12 (α : Mem) (a : Nat) (v : Int32) : up2 α a 6 v a 12 = α a 12 := up2_rd α a 6 12 v (by decide)
theorem u6_13 (α : Mem) (a : Nat) (v : Int32) : up2 α a 6 v a 13 = α a 13 := up2_rd α a 6 13 v (by decide)
theorem u6_14 (α : Mem) (a : Nat) (v : Int32) : up2 α a 6 v a 14 = α a 14 := up2_rd α a 6 14 v (by decide)
theorem u7_0 (α : Mem) (a : Nat) (v : Int32) : up2 α a 7 v a 0 = α a 0 := up2_rd α a 7 0 v (by decide)
theorem u7_1 (α : Mem) (a : Nat) (v : Int32) : up2 α a 7 v a 1 = α a 1 := up2_rd α a 7 1 v (by decide)
theorem u7_2 (α : Mem) (a : Nat) (v : Int32) : up2 α a 7 v a 2 = α a 2 := up2_rd α a 7 2 v (by decide)
theorem u7_3 (α : Mem) (a : Nat) (v : Int32) : up2 α a 7 v a 3 = α a 3 := up2_rd α a 7 3 v (by decide)
theorem u7_4 (α : Mem) (a : Nat) (v : Int32) : up2 α a 7 v a 4 = α a 4 := up2_rd α a 7 4 v (by decide)
theorem u7_5 (α : Mem) (a : Nat) (v : Int32) : up2 α a 7 v a 5 = α a 5 := up2_rd α a 7 5 v (by decide)
theorem u7_6 (α : Mem) (a : Nat) (v : Int32) : up2 α a 7 v a 6 = α a 6 := up2_rd α a 7 6 v (by decide)
theorem u7_8 (α : Mem) (a : Nat) (v : Int32) : up2 α a 7 v a 8 = α a 8 := up2_rd α a 7 8 v (by decide)
theorem u7_9 (α : Mem) (a : Nat) (v : Int32) : up2 α a 7 v a 9 = α a 9 := up2_rd α a 7 9 v (by decide)
theorem u7_10 (α : Mem) (a : Nat) (v : Int32) : up2 α a 7 v a 10 = α a 10 := up2_rd α a 7 10 v (by decide)
theorem u7_11 (α : Mem) (a : Nat) (v : Int32) : up2 α a 7 v a 11 = α a 11 := up2_rd α a 7 11 v (by decide)
theorem u7_12 (α : Mem) (a : Nat) (v : Int32) : up2 α a 7 v a 12 = α a 12 := up2_rd α a 7 12 v (by decide)
theorem u7_13 (α : Mem) (a : Nat) (v : Int32) : up2 α a 7 v a 13 = α a 13 := up2_rd α a 7 13 v (by decide)
theorem u7_14 (α : Mem) (a : Nat) (v : Int32) : up2 α a 7 v a 14 = α a 14 := up2_rd α a 7 14 v (by decide)
theorem u8_0 (α : Mem) (a : Nat) (v : Int32) : up2 α a 8 v a 0 = α a 0 := up2_rd α a 8 0 v (by decide)
theorem u8_1 (α : Mem) (a : Nat) (v : Int32) : up2 α a 8 v a 1 = α a 1 := up2_rd α a 8 1 v (by decide)
theorem u8_2 (α : Mem) (a : Nat) (v : Int32) : up2 α a 8 v a 2 = α a 2 := up2_rd α a 8 2 v (by decide)
theorem u8_3 (α : Mem) (a : Nat) (v : Int32) : up2 α a 8 v a 3 = α a 3 := up2_rd α a 8 3 v (by decide)
theorem u8_4 (α : Mem) (a : Nat) (v : Int32) : up2 α a 8 v a 4 = α a 4 := up2_rd α a 8 4 v (by decide)
theorem u8_5 (α : Mem) (a : Nat) (v : Int32) : up2 α a 8 v a 5 = α a 5 := up2_rd α a 8 5 v (by decide)
theorem u8_6 (α : Mem) (a : Nat) (v : Int32) : up2 α a 8 v a 6 = α a 6 := up2_rd α a 8 6 v (by decide)
theorem u8_7 (α : Mem) (a : Nat) (v : Int32) : up2 α a 8 v a 7 = α a 7 := up2_rd α a 8 7 v (by decide)
theorem u8_9 (α : Mem) (a : Nat) (v : Int32) : up2 α a 8 v a 9 = α a 9 := up2_rd α a 8 9 v (by decide)
theorem u8_10 (α : Mem) (a : Nat) (v : Int32) : up2 α a 8 v a 10 = α a 10 := up2_rd α a 8 10 v (by decide)
theorem u8_11 (α : Mem) (a : Nat) (v : Int32) : up2 α a 8 v a 11 = α a 11 := up2_rd α a 8 11 v (by decide)
theorem u8_12 (α : Mem) (a : Nat) (v : Int32) : up2 α a 8 v a 12 = α a 12 := up2_rd α a 8 12 v (by decide)
theorem u8_13 (α : Mem) (a : Nat) (v : Int32) : up2 α a 8 v a 13 = α a 13 := up2_rd α a 8 13 v (by decide)
theorem u8_14 (α : Mem) (a : Nat) (v : Int32) : up2 α a 8 v a 14 = α a 14 := up2_rd α a 8 14 v (by decide)
theorem u9_0 (α : Mem) (a : Nat) (v : Int32) : up2 α a 9 v a 0 = α a 0 := up2_rd α a 9 0 v (by decide)
theorem u9_1 (α : Mem) (a : Nat) (v : Int32) : up2 α a 9 v a 1 = α a 1 := up2_rd α a 9 1 v (by decide)
theorem u9_2 (α : Mem) (a : Nat) (v : Int32) : up2 α a 9 v a 2 = α a 2 := up2_rd α a 9 2 v (by decide)
theorem u9_3 (α : Mem) (a : Nat) (v : Int32) : up2 α a 9 v a 3 = α a 3 := up2_rd α a 9 3 v (by decide)
theorem u9_4 (α : Mem) (a : Nat) (v : Int32) : up2 α a 9 v a 4 = α a 4 := up2_rd α a 9 4 v (by decide)
theorem u9_5 (α : Mem) (a : Nat) (v : Int32) : up2 α a 9 v a 5 = α a 5 := up2_rd α a 9 5 v (by decide)
theorem u9_6 (α : Mem) (a : Nat) (v : Int32) : up2 α a 9 v a 6 = α a 6 := up2_rd α a 9 6 v (by decide)
theorem u9_7 (α : Mem) (a : Nat) (v : Int32) : up2 α a 9 v a 7 = α a 7 := up2_rd α a 9 7 v (by decide)
theorem u9_8 (α : Mem) (a : Nat) (v : Int32) : up2 α a 9 v a 8 = α a 8 := up2_rd α a 9 8 v (by decide)
theorem u9_10 (α : Mem) (a : Nat) (v : Int32) : up2 α a 9 v a 10 = α a 10 := up2_rd α a 9 10 v (by decide)
theorem u9_11 (α : Mem) (a : Nat) (v : Int32) : up2 α a 9 v a 11 = α a 11 := up2_rd α a 9 11 v (by decide)
theorem u9_12 (α : Mem) (a : Nat) (v : Int32) : up2 α a 9 v a 12 = α a 12 := up2_rd α a 9 12 v (by decide)
theorem u9_13 (α : Mem) (a : Nat) (v : Int32) : up2 α a 9 v a 13 = α a 13 := up2_rd α a 9 13 v (by decide)
theorem u9_14 (α : Mem) (a : Nat) (v : Int32) : up2 α a 9 v a 14 = α a 14 := up2_rd α a 9 14 v (by decide)
theorem u10_0 (α : Mem) (a : Nat) (v : Int32) : up2 α a 10 v a 0 = α a 0 := up2_rd α a 10 0 v (by decide)
theorem u10_1 (α : Mem) (a : Nat) (v : Int32) : up2 α a 10 v a 1 = α a 1 := up2_rd α a 10 1 v (by decide)
theorem u10_2 (α : Mem) (a : Nat) (v : Int32) : up2 α a 10 v a 2 = α a 2 := up2_rd α a 10 2 v (by decide)
theorem u10_3 (α : Mem) (a : Nat) (v : Int32) : up2 α a 10 v a 3 = α a 3 := up2_rd α a 10 3 v (by decide)
theorem u10_4 (α : Mem) (a : Nat) (v : Int32) : up2 α a 10 v a 4 = α a 4 := up2_rd α a 10 4 v (by decide)
theorem u10_5 (α : Mem) (a : Nat) (v : Int32) : up2 α a 10 v a 5 = α a 5 := up2_rd α a 10 5 v (by decide)
theorem u10_6 (α : Mem) (a : Nat) (v : Int32) : up2 α a 10 v a 6 = α a 6 := up2_rd α a 10 6 v (by decide)
theorem u10_7 (α : Mem) (a : Nat) (v : Int32) : up2 α a 10 v a 7 = α a 7 := up2_rd α a 10 7 v (by decide)
theorem u10_8 (α : Mem) (a : Nat) (v : Int32) : up2 α a 10 v a 8 = α a 8 := up2_rd α a 10 8 v (by decide)
theorem u10_9 (α : Mem) (a : Nat) (v : Int32) : up2 α a 10 v a 9 = α a 9 := up2_rd α a 10 9 v (by decide)
theorem u10_11 (α : Mem) (a : Nat) (v : Int32) : up2 α a 10 v a 11 = α a 11 := up2_rd α a 10 11 v (by decide)
theorem u10_12 (α : Mem) (a : Nat) (v : Int32) : up2 α a 10 v a 12 = α a 12 := up2_rd α a 10 12 v (by decide)
theorem u10_13 (α : Mem) (a : Nat) (v : Int32) : up2 α a 10 v a 13 = α a 13 := up2_rd α a 10 13 v (by decide)
theorem u10_14 (α : Mem) (a : Nat) (v : Int32) : up2 α a 10 v a 14 = α a 14 := up2_rd α a 10 14 v (by decide)
theorem u11_0 (α : Mem) (a : Nat) (v : Int32) : up2 α a 11 v a 0 = α a 0 := up2_rd α a 11 0 v (by decide)
theorem u11_1 (α : Mem) (a : Nat) (v : Int32) : up2 α a 11 v a 1 = α a 1 := up2_rd α a 11 1 v (by decide)
theorem u11_2 (α : Mem) (a : Nat) (v : Int32) : up2 α a 11 v a 2 = α a 2 := up2_rd α a 11 2 v (by decide)
theorem u11_3 (α : Mem) (a : Nat) (v : Int32) : up2 α a 11 v a 3 = α a 3 := up2_rd α a 11 3 v (by decide)
theorem u11_4 (α : Mem) (a : Nat) (v : Int32) : up2 α a 11 v a 4 = α a 4 := up2_rd α a 11 4 v (by decide)
theorem u11_5 (α : Mem) (a : Nat) (v : Int32) : up2 α a 11 v a 5 = α a 5 := up2_rd α a 11 5 v (by decide)
theorem u11_6 (α : Mem) (a : Nat) (v : Int32) : up2 α a 11 v a 6 = α a 6 := up2_rd α a 11 6 v (by decide)
theorem u11_7 (α : Mem) (a : Nat) (v : Int32) : up2 α a 11 v a 7 = α a 7 := up2_rd α a 11 7 v (by decide)
theorem u11_8 (α : Mem) (a : Nat) (v : Int32) : up2 α a 11 v a 8 = α a 8 := up2_rd α a 11 8 v (by decide)
theorem u11_9 (α : Mem) (a : Nat) (v : Int32) : up2 α a 11 v a 9 = α a 9 := up2_rd α a 11 9 v (by decide)
theorem u11_10 (α : Mem) (a : Nat) (v : Int32) : up2 α a 11 v a 10 = α a 10 := up2_rd α a 11 10 v (by decide)
theorem u11_12 (α : Mem) (a : Nat) (v : Int32) : up2 α a 11 v a 12 = α a 12 := up2_rd α a 11 12 v (by decide)
theorem u11_13 (α : Mem) (a : Nat) (v : Int32) : up2 α a 11 v a 13 = α a 13 := up2_rd α a 11 13 v (by decide)
theorem u11_14 (α : Mem) (a : Nat) (v : Int32) : up2 α a 11 v a 14 = α a 14 := up2_rd α a 11 14 v (by decide)
theorem u12_0 (α : Mem) (a : Nat) (v : Int32) : up2 α a 12 v a 0 = α a 0 := up2_rd α a 12 0 v (by decide)
theorem u12_1 (α : Mem) (a : Nat) (v : Int32) : up2 α a 12 v a 1 = α a 1 := up2_rd α a 12 1 v (by decide)
theorem u12_2 (α : Mem) (a : Nat) (v : Int32) : up2 α a 12 v a 2 = α a 2 := up2_rd α a 12 2 v (by decide)
theorem u12_3 (α : Mem) (a : Nat) (v : Int32) : up2 α a 12 v a 3 = α a 3 := up2_rd α a 12 3 v (by decide)
theorem u12_4 (α : Mem) (a : Nat) (v : Int32) : up2 α a 12 v a 4 = α a 4 := up2_rd α a 12 4 v (by decide)
theorem u12_5 (α : Mem) (a : Nat) (v : Int32) : up2 α a 12 v a 5 = α a 5 := up2_rd α a 12 5 v (by decide)
theorem u12_6 (α : Mem) (a : Nat) (v : Int32) : up2 α a 12 v a 6 = α a 6 := up2_rd α a 12 6 v (by decide)
theorem u12_7 (α : Mem) (a : Nat) (v : Int32) : up2 α a 12 v a 7 = α a 7 := up2_rd α a 12 7 v (by decide)
theorem u12_8 (α : Mem) (a : Nat) (v : Int32) : up2 α a 12 v a 8 = α a 8 := up2_rd α a 12 8 v (by decide)
theorem u12_9 (α : Mem) (a : Nat) (v : Int32) : up2 α a 12 v a 9 = α a 9 := up2_rd α a 12 9 v (by decide)
theorem u12_10 (α : Mem) (a : Nat) (v : Int32) : up2 α a 12 v a 10 = α a 10 := up2_rd α a 12 10 v (by decide)
theorem u12_11 (α : Mem) (a : Nat) (v : Int32) : up2 α a 12 v a 11 = α a 11 := up2_rd α a 12 11 v (by decide)
theorem u12_13 (α : Mem) (a : Nat) (v : Int32) : up2 α a 12 v a 13 = α a 13 := up2_rd α a 12 13 v (by decide)
theorem u12_14 (α : Mem) (a : Nat) (v : Int32) : up2 α a 12 v a 14 = α a 14 := up2_rd α a 12 14 v (by decide)
theorem u13_0 (α : Mem) (a : Nat) (v : Int32) : up2 α a 13 v a 0 = α a 0 := up2_rd α a 13 0 v (by decide)
theorem u13_1 (α : Mem) (a : Nat) (v : Int32) : up2 α a 13 v a 1 = α a 1 := up2_rd α a 13 1 v (by decide)
theorem u13_2 (α : Mem) (a : Nat) (v : Int32) : up2 α a 13 v a 2 = α a 2 := up2_rd α a 13 2 v (by decide)
theorem u13_3 (α : Mem) (a : Nat) (v : Int32) : up2 α a 13 v a 3 = α a 3 := up2_rd α a 13 3 v (by decide)
theorem u13_4 (α : Mem) (a : Nat) (v : Int32) : up2 α a 13 v a 4 = α a 4 := up2_rd α a 13 4 v (by decide)
theorem u13_5 (α : Mem) (a : Nat) (v : Int32) : up2 α a 13 v a 5 = α a 5 := up2_rd α a 13 5 v (by decide)
theorem u13_6 (α : Mem) (a : Nat) (v : Int32) : up2 α a 13 v a 6 = α a 6 := up2_rd α a 13 6 v (by decide)
theorem u13_7 (α : Mem) (a : Nat) (v : Int32) : up2 α a 13 v a 7 = α a 7 := up2_rd α a 13 7 v (by decide)
theorem u13_8 (α : Mem) (a : Nat) (v : Int32) : up2 α a 13 v a 8 = α a 8 := up2_rd α a 13 8 v (by decide)
theorem u13_9 (α : Mem) (a : Nat) (v : Int32) : up2 α a 13 v a 9 = α a 9 := up2_rd α a 13 9 v (by decide)
theorem u13_10 (α : Mem) (a : Nat) (v : Int32) : up2 α a 13 v a 10 = α a 10 := up2_rd α a 13 10 v (by decide)
theorem u13_11 (α : Mem) (a : Nat) (v : Int32) : up2 α a 13 v a 11 = α a 11 := up2_rd α a 13 11 v (by decide)
theorem u13_12 (α : Mem) (a : Nat) (v : Int32) : up2 α a 13 v a 12 = α a 12 := up2_rd α a 13 12 v (by decide)
theorem u13_14 (α : Mem) (a : Nat) (v : Int32) : up2 α a 13 v a 14 = α a 14 := up2_rd α a 13 14 v (by decide)
theorem u14_0 (α : Mem) (a : Nat) (v : Int32) : up2 α a 14 v a 0 = α a 0 := up2_rd α a 14 0 v (by decide)
theorem u14_1 (α : Mem) (a : Nat) (v : Int32) : up2 α a 14 v a 1 = α a 1 := up2_rd α a 14 1 v (by decide)
theorem u14_2 (α : Mem) (a : Nat) (v : Int32) : up2 α a 14 v a 2 = α a 2 := up2_rd α a 14 2 v (by decide)
theorem u14_3 (α : Mem) (a : Nat) (v : Int32) : up2 α a 14 v a 3 = α a 3 := up2_rd α a 14 3 v (by decide)
theorem u14_4 (α : Mem) (a : Nat) (v : Int32) : up2 α a 14 v a 4 = α a 4 := up2_rd α a 14 4 v (by decide)
theorem u14_5 (α : Mem) (a : Nat) (v : Int32) : up2 α a 14 v a 5 = α a 5 := up2_rd α a 14 5 v (by decide)
theorem u14_6 (α : Mem) (a : Nat) (v : Int32) : up2 α a 14 v a 6 = α a 6 := up2_rd α a 14 6 v (by decide)
theorem u14_7 (α : Mem) (a : Nat) (v : Int32) : up2 α a 14 v a 7 = α a 7 := up2_rd α a 14 7 v (by decide)
theorem u14_8 (α : Mem) (a : Nat) (v : Int32) : up2 α a 14 v a 8 = α a 8 := up2_rd α a 14 8 v (by decide)
theorem u14_9 (α : Mem) (a : Nat) (v : Int32) : up2 α a 14 v a 9 = α a 9 := up2_rd α a 14 9 v (by decide)
theorem u14_10 (α : Mem) (a : Nat) (v : Int32) : up2 α a 14 v a 10 = α a 10 := up2_rd α a 14 10 v (by decide)
theorem u14_11 (α : Mem) (a : Nat) (v : Int32) : up2 α a 14 v a 11 = α a 11 := up2_rd α a 14 11 v (by decide)
theorem u14_12 (α : Mem) (a : Nat) (v : Int32) : up2 α a 14 v a 12 = α a 12 := up2_rd α a 14 12 v (by decide)
theorem u14_13 (α : Mem) (a : Nat) (v : Int32) : up2 α a 14 v a 13 = α a 13 := up2_rd α a 14 13 v (by decide)
def hitG (α : Mem) (i j : Nat) (f : Int32) : Mem := if arcC (α (7 + j) 2) (sgC α (α (7 + j) 1) (α (7 + i) 1)) = 0 then up2 α (7 + j) 5 (mxC 0 (α (7 + j) 5 - f / 12)) else if arcC (α (7 + j) 2) (sgC α (α (7 + j) 1) (α (7 + i) 1)) = 1 then up2 α (7 + j) 6 (mxC 0 (α (7 + j) 6 - f / 12)) else α
def hitL (α : Mem) (j : Nat) (f : Int32) : Int32 := mnC (α (7 + j) 3) (f / 4)
def hitH (α : Mem) (i j : Nat) (f : Int32) : Mem := up2 (hitG α i j f) (7 + j) 3 (α (7 + j) 3 - hitL α j f)
def hitC (α : Mem) (i j : Nat) (f : Int32) : Mem := if 0 < α (7 + j) 3 - hitL α j f then hitH α i j f else looseC (hitH α i j f) (7 + j)
theorem tidv {f : Int32} (h : 0 ≤ f.toInt) (k : Int32) (hk : 0 < k.toInt) : 0 ≤ (f / k).toInt ∧ (f / k).toInt ≤ f.toInt := by
  rw [tidiv h hk]
  exact ⟨Int.ediv_nonneg h (by omega), Int.ediv_le_self _ h⟩
theorem Ok_hitG {α : Mem} {n : Nat} (H : Ok α n) (i : Nat) {j : Nat} (hj : j < n) {f : Int32} (hf : 0 ≤ f.toInt) : Ok (hitG α i j f) n := by
  have h12 := tidv hf 12 (by decide)
  have h1 := H.gl j hj
  have h2 := H.gr j hj
  have hfl := f.toInt_lt
  unfold hitG
  split
  · refine H.up (vS5 ?_)
    rw [mx_ti, sub_ti (by omega) (by omega), ti0]
    split <;> omega
  split
  · refine H.up (vS6 ?_)
    rw [mx_ti, sub_ti (by omega) (by omega), ti0]
    split <;> omega
  · exact H
theorem hitG_4 (α : Mem) (i j : Nat) (f : Int32) (m : Nat) : hitG α i j f 4 m = α 4 m := by
  unfold hitG
  split
  · exact up2_4 ..
  split
  · exact up2_4 ..
  · rfl
theorem hitL_bd {α : Mem} {n : Nat} (H : Ok α n) {j : Nat} (hj : j < n) {f : Int32} (hf : 0 ≤ f.toInt) : 0 ≤ (hitL α j f).toInt ∧ (hitL α j f).toInt ≤ (α (7 + j) 3).toInt := by
  have h4 := tidv hf 4 (by decide)
  have h := H.hull j hj
  unfold hitL
  rw [mn_ti]
  split <;> omega
theorem Ok_hitH {α : Mem} {n : Nat} (H : Ok α n) (i : Nat) {j : Nat} (hj : j < n) {f : Int32} (hf : 0 ≤ f.toInt) : Ok (hitH α i j f) n := by
  have h := H.hull j hj
  have hl := hitL_bd H hj hf
  refine Ok.up' (Ok_hitG H i hj hf) α (fun k => (hitG_4 ..).symm) (vS3 ?_)
  rw [sub_ti (by omega) (by omega)]; omega
theorem Ok_loose {α : Mem} {n : Nat} (H : Ok α n) (i : Nat) : Ok (looseC α (7 + i)) n := by
  unfold looseC
  split
  · exact H.up (vS12 (Or.inl rfl))
  · exact Ok.up' (H.up (vS12 (Or.inl rfl))) α (fun k => (up2_4 ..).symm) (vS12 (Or.inl rfl))
theorem Ok_hit {α : Mem} {n : Nat} (H : Ok α n) (i : Nat) {j : Nat} (hj : j < n) {f : Int32} (hf : 0 ≤ f.toInt) : Ok (hitC α i j f) n := by
  unfold hitC
  split
  · exact Ok_hitH H i hj hf
  · exact Ok_loose (Ok_hitH H i hj hf) j
theorem Ok.pt {α : Mem} {n : Nat} (H : Ok α n) {i : Nat} (hi : i < n) : α (7 + i) 12 = -1 ∨ ∃ j, j < n ∧ α (7 + i) 12 = J j := by
  rcases H.part i hi with h | ⟨j, h1, _, h2⟩
  · exact Or.inl h
  · exact Or.inr ⟨j, h1, h2⟩
section S31
variable {z : Zr} {α β γ : Mem} {π : Nat → Nat} {η : Int64} {o : Nat → Int64} {od : Nat → UInt64} {n : Nat}
theorem s17 (H : Ok α n) {i j : Nat} (hi : i < n) (hj : j < n) {f : Int32} (hf : 0 ≤ f.toInt) : Run 17 0 [some (.ref (62)), some (.ref (7 + i)), some (.ref (7 + j)), some (.int (f)), none, none] [] (HC z α π β η o od) = some (.inl (some (.int (hitL α j f))), (HC z (hitC α i j f) π β η o od)) := by
  have h8 := H.n8
  have ki := kd_ship (show i < 8 by omega)
  have kj := kd_ship (show j < 8 by omega)
  have H2 := Ok_hitH H i hj hf
  have hu : Run 62 0 [some (.ref (4)), some (.ref (7 + j))] [] (HC z (hitH α i j f) π β η o od) = _ := s62 H2.hn H2.n8 kj (H2.pt hj)
  unfold hitC hitL
  unfold hitH hitG hitL at hu ⊢
  by_cases q1 : arcC (α (7 + j) 2) (sgC α (α (7 + j) 1) (α (7 + i) 1)) = 0 <;> by_cases q2 : arcC (α (7 + j) 2) (sgC α (α (7 + j) 1) (α (7 + i) 1)) = 1 <;> by_cases q3 : 0 < α (7 + j) 3 - mnC (α (7 + j) 3) (f / 4) <;> simp only [q1, q2, ln0_1, ln0_2, ln0_3, ln0_4, ln0_5, ln1_0, ln1_2, ln1_3, ln1_4, ln1_5, ln2_0, ln2_1, ln2_3, ln2_4, ln2_5, ln3_0, ln3_1, ln3_2, ln3_4, ln3_5, ln4_0, ln4_1, ln4_2, ln4_3, ln4_5, ln5_0, ln5_1, ln5_2, ln5_3, ln5_4, aft_v, aft_n, Option.bind_some, rf_some, ck_i, ck_r, ck_n, nb0, nb1, nbi, Nat.reduceAdd, if_true, if_false, not_false_eq_true, not_true_eq_false] at hu ⊢ <;> simp only [e17_0, e17_1, e17_4, e17_5, e17_6, e17_7, e17_10, e17_12, e17_13, e17_16, e17_17, e17_20, e17_21, e17_24, e17_25, e17_28, e17_31, e17_34, e17_36, e17_38, e17_41, e17_42, e17_43, e17_44, e17_47, e17_48, e17_50, e17_51, e17_52, e17_55, e17_58, e17_61, e17_63, e17_64, e17_67, e17_68, e17_69, e17_70, e17_73, e17_74, e17_76, e17_77, e17_78, e17_81, e17_84, e17_85, e17_86, e17_89, e17_91, e17_92, e17_95, e17_96, e17_99, e17_102, e17_103, e17_106, e17_107, e17_110, e17_112, gf2_0 kd62, isO4, isS (show j < 8 by omega), gf7_1 ki, gf7_1 kj, gf7_2 kj, gf7_3 kj, gf7_5 kj, gf7_6 kj, t55 H, s11, t210, t211, pf7_5 kj, pf7_6 kj, pf7_3 kj, u5_3, u6_3, up2_rr, s73 kj, bi0, q1, q2, q3, hu, show ¬ (4 : Int32) = 0 by decide, show ¬ (12 : Int32) = 0 by decide, ln0_1, ln0_2, ln0_3, ln0_4, ln0_5, ln1_0, ln1_2, ln1_3, ln1_4, ln1_5, ln2_0, ln2_1, ln2_3, ln2_4, ln2_5, ln3_0, ln3_1, ln3_2, ln3_4, ln3_5, ln4_0, ln4_1, ln4_2, ln4_3, ln4_5, ln5_0, ln5_1, ln5_2, ln5_3, ln5_4, aft_v, aft_n, Option.bind_some, rf_some, ck_i, ck_r, ck_n, nb0, nb1, nbi, Nat.reduceAdd, if_true, if_false, not_false_eq_true, not_true_eq_false]
/-- the sea behind a shot, and what it took -/
def shotC (α : Mem) (n i : Nat) (r : Int32) (j : Nat) (aim : Int32) : Mem × Int32 :=
  let f := forceC α n i r j
  let α0 := up2 α (7 + i) (if r = 0 then 10 else 11) (waitC α (7 + i))
  if aim = 0 then (hitC α0 i j f, hitL α0 j f)
  else if aim = 1 then (up2 α0 (7 + j) 4 (α0 (7 + j) 4 - mnC (α0 (7 + j) 4) (f / 6)), mnC (α0 (7 + j) 4) (f / 6))
  else (up2 α0 (7 + j) 7 (α0 (7 + j) 7 - mxC 0 (mnC (α0 (7 + j) 7 - 1) (f / 5))), mxC 0 (mnC (α0 (7 + j) 7 - 1) (f / 5)))
theorem Ok_wait {α : Mem} {n : Nat} (H : Ok α n) (i : Nat) (r : Int32) : Ok (up2 α (7 + i) (if r = 0 then 10 else 11) (waitC α (7 + i))) n := by
  have h : 0 ≤ (waitC α (7 + i)).toInt ∧ (waitC α (7 + i)).toInt ≤ 2 := by unfold waitC; split <;> decide
  split
  · exact H.up (vS10 h)
  · exact H.up (vS11 h)
theorem s16 (H : Ok α n) {i j : Nat} (hi : i < n) (hj : j < n) {r : Int32} (hr : r = 0 ∨ r = 1) (aim : Int32) : Run 16 0 [some (.ref (62)), some (.ref (7 + i)), some (.int (r)), some (.ref (7 + j)), some (.int (aim)), none, none] [] (HC z α π β η o od) = some (.inl (some (.int ((shotC α n i r j aim).2))), (HC z (shotC α n i r j aim).1 π β η o od)) := by
  have h8 := H.n8
  have ki := kd_ship (show i < 8 by omega)
  have kj := kd_ship (show j < 8 by omega)
  have hf : Run 14 0 [some (.ref (62)), some (.ref (7 + i)), some (.int (r)), some (.ref (7 + j)), none, none, none] [] (HC z α π β η o od) = _ := s14 H hi hj hr
  have hw : Run 80 0 [some (.ref (7 + i)), some (.int (r)), none] [] (HC z α π β η o od) = _ := s80 ki hr
  have H0 := Ok_wait H i r
  have hh : Run 17 0 [some (.ref (62)), some (.ref (7 + i)), some (.ref (7 + j)), some (.int (forceC α n i r j)), none, none] [] (HC z (up2 α (7 + i) (if r = 0 then 10 else 11) (waitC α (7 + i))) π β η o od) = _ := s17 H0 hi hj (force_bd H hi hj r).1
  unfold shotC
  simp only [e16_0, e16_1, e16_2, e16_3, e16_4, e16_7, e16_9, e16_10, e16_11, e16_14, e16_16, e16_19, e16_20, e16_21, e16_22, e16_24, e16_27, e16_28, e16_30, e16_31, e16_34, e16_35, e16_38, e16_40, e16_42, e16_43, e16_46, e16_48, e16_49, e16_50, e16_53, e16_55, e16_56, e16_59, e16_61, e16_62, e16_63, e16_64, e16_67, e16_68, e16_69, e16_71, e16_72, e16_73, e16_76, e16_79, e16_81, e16_82, e16_83, e16_86, e16_88, e16_89, e16_92, e16_94, isO62, isS (show i < 8 by omega), isS (show j < 8 by omega), hf, hw, hh, gf7_4 kj, gf7_7 kj, pf7_4 kj, pf7_7 kj, t210, t211, show ¬ (6 : Int32) = 0 by decide, show ¬ (5 : Int32) = 0 by decide, aft_v, aft_n, Option.bind_some, rf_some, ck_i, ck_r, ck_n, nb0, nb1, nbi, Nat.reduceAdd, if_true, if_false, not_false_eq_true, not_true_eq_false]
  by_cases q1 : aim = 0
  · simp only [q1, aft_v, aft_n, Option.bind_some, rf_some, ck_i, ck_r, ck_n, nb0, nb1, nbi, Nat.reduceAdd, if_true, if_false, not_false_eq_true, not_true_eq_false]
  · by_cases q2 : aim = 1 <;> simp only [q1, q2, ln0_1, ln0_2, ln0_3, ln0_4, ln0_5, ln1_0, ln1_2, ln1_3, ln1_4, ln1_5, ln2_0, ln2_1, ln2_3, ln2_4, ln2_5, ln3_0, ln3_1, ln3_2, ln3_4, ln3_5, ln4_0, ln4_1, ln4_2, ln4_3, ln4_5, ln5_0, ln5_1, ln5_2, ln5_3, ln5_4, aft_v, aft_n, Option.bind_some, rf_some, ck_i, ck_r, ck_n, nb0, nb1, nbi, Nat.reduceAdd, if_true, if_false, not_false_eq_true, not_true_eq_false]
end S31
