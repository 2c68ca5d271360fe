/-! as in whole -/
theorem ModAt.sI {M : SM} {m : Nat} (h : ModAt M m) (a : Nat) (f : Nat → Int32) : ModAt (sI M a f) m := h
theorem ModAt.sJ {M : SM} {m : Nat} (h : ModAt M m) (a : Nat) (f : Nat → Int64) : ModAt (sJ M a f) m := h
def rcT (t : Nat) : Nat := if t = 6 then 6 else t + 1
/-- the tree of the beginning -/
def D0 : Nat → Int32 := fun _ => -6
def V0 : Nat → Int32 := fun f => if f = 0 then 0 else -6
