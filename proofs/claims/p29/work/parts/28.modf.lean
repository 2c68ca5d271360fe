/-! as in whole -/
/-- what the rows say an entry depends on -/
def rNd (w : Nat → Int32) : Nat → Int64 := fun e => dpN (w (2 + 8 * e + 6)) (w (2 + 8 * e + 7))
theorem orL_cong {x : Int64} {g g' : Nat → Int64} : ∀ {n : Nat}, (∀ k, k < n → g k = g' k) → orL x g n = orL x g' n := by
  intro n
  induction n with
  | zero => intro _; rfl
  | succ n ih =>
    intro h
    unfold orL
    rw [ih (fun k hk => h k (by omega)), h n (by omega)]
