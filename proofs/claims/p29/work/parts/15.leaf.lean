/-! as in whole -/
theorem c_isFile (x : Int32) (M : SM) : cl 19 [.int x] M = some (some (.int (if x < 0 ∨ 16 ≤ x then 0 else 1)), M) := by
  show rn 19 0 [some (.int x)] [] M = _
  by_cases h1 : x < 0 <;> by_cases h2 : (16 : Int32) ≤ x <;> simp [t19_0, t19_1, t19_4, t19_5, t19_7, t19_10, t19_11, t19_14, t19_15, h1, h2]
theorem c_hasDir (x : Int32) (M : SM) : cl 20 [.int x] M = some (some (.int (if x = 0 ∨ x = 2 then 1 else 0)), M) := by
  show rn 20 0 [some (.int x)] [] M = _
  by_cases h1 : x = 0 <;> by_cases h2 : x = 2 <;> simp [t20_0, t20_1, t20_4, t20_5, t20_6, t20_9, t20_10, t20_13, t20_14, h1, h2]
theorem c_bit (x : Int32) (M : SM) : cl 24 [.int x] M = some (some (.long (1 <<< (x.toInt64 &&& 63))), M) := by
  show rn 24 0 [some (.int x)] [] M = _
  simp only [t24_0, t24_1, t24_2, t24_3]
theorem c_holds (u : Int64) {k : Nat} (hk : k < 64) (M : SM) : cl 27 [.long u, .int (nI k)] M = some (some (.int (if bt u k = true then 1 else 0)), M) := by
  show rn 27 0 [some (.long u), none, some (.int (nI k))] [] M = _
  simp only [t27_0, t27_1, t27_2, t27_5, t27_6, t27_7, t27_8, t27_11, t27_12, t27_15, t27_16, c_bit, cbn_i, lg_cmp_eq, bt_in hk]
  by_cases h : bt u k = true <;> simp [h]
theorem c_max (x y : Int32) (M : SM) : cl 56 [.int x, .int y] M = some (some (.int (if x < y then y else x)), M) := by
  show rn 56 0 [some (.int x), some (.int y)] [] M = _
  by_cases h : x < y <;> simp [t56_0, t56_1, t56_2, t56_5, t56_6, t56_9, t56_10, h]
theorem c_min (x y : Int32) (M : SM) : cl 30 [.int x, .int y] M = some (some (.int (if y < x then y else x)), M) := by
  show rn 30 0 [some (.int x), some (.int y)] [] M = _
  by_cases h : y < x <;> simp [t30_0, t30_1, t30_2, t30_5, t30_6, t30_9, t30_10, h]
