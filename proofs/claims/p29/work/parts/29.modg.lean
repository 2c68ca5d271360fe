/-! as in whole -/
def rRp (w : Nat → Int32) (n : Nat) : Int64 := mk (fun e => !decide (w (2 + 8 * e + 4) = -6)) n
def rRd (w : Nat → Int32) (n : Nat) : Int64 := mk (fun e => decide (w (2 + 8 * e + 3) = 0) && (decide (w (2 + 8 * e + 4) = -6) && decide (rNd w e &&& (rRp w n ^^^ (-1)) = 0))) n
