/-! as in whole -/
def ModAt (M : SM) (m : Nat) : Prop := mK M m = (19, 0) ∧ mP M m 0 = some (m + 1) ∧ mP M m 1 = some (m + 2) ∧ mP M m 2 = some (m + 3) ∧ mP M m 4 = some (m + 4) ∧ mP M m 5 = some (m + 5) ∧ mP M m 6 = some (m + 6) ∧ mP M m 8 = some (m + 7) ∧ mP M m 9 = some (m + 8) ∧ mP M m 10 = some (m + 9) ∧ mK M (m + 1) = (1, 370) ∧ mK M (m + 2) = (1, 370) ∧ mK M (m + 3) = (1, 2220) ∧ mK M (m + 4) = (1, 740) ∧ mK M (m + 5) = (1, 2) ∧ mK M (m + 6) = (1, 80) ∧ mK M (m + 7) = (2, 40) ∧ mK M (m + 8) = (1, 40) ∧ mK M (m + 9) = (1, 48)
/-- what an entry depends on, by its two halves -/
def dpN (lo hi : Int32) : Int64 := hi.toInt64 <<< ((20 : Int32).toInt64 &&& 63) ||| lo.toInt64
