/-! as in whole -/
theorem live_or {ln : Nat → Int64} {lost : Int64} {n e : Nat} (h40 : n ≤ 40) (he : e < n) : (bt (lost ||| orpB ln n lost) e = true) = ¬ live ln lost e := by
  unfold orpB live
  rw [bt_or, bt_and, bt_mk _ _ _ (by omega), bt_not _ (by omega)]
  cases q : bt lost e <;> by_cases z : ln e &&& lost = 0 <;> simp [he, z]
