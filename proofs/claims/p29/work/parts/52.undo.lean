/-! as in whole -/
abbrev Same (M M' : SM) (b : Nat) : Prop := mI M' b = mI M b ∧ mJ M' b = mJ M b
