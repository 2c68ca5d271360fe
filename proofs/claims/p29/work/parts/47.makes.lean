/-! as in whole -/
theorem KK {M M' : SM} (h : M'.2.2 = M.2.2) : mK M' = mK M := congrArg (fun z => z.2.1) h
theorem PK {M M' : SM} (h : M'.2.2 = M.2.2) : mP M' = mP M := congrArg (fun z => z.1) h
theorem ge_no {e : Int32} (h : e < 0) : ((0 : Int32) ≤ e) = False := eq_false (Int32.not_le.mpr h)
theorem ge_0 : ((0 : Int32) ≤ 0) = True := by decide
