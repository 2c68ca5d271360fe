/-! as in whole -/
/-- the last one below n with the property -/
def lastI (p : Nat → Bool) : Nat → Int32
  | 0 => -6
  | n + 1 => if p n = true then nI n else lastI p n
theorem or_s64 (a b : Int32) : (a ||| b).toInt64 = a.toInt64 ||| b.toInt64 := Int32.toInt64_or a b
/-- one entry more that it depends on -/
def dpW (w : Nat → Int32) (e d : Nat) : Nat → Int32 := if d < 20 then va_up w (2 + 8 * e + 6) (w (2 + 8 * e + 6) ||| 1 <<< (nI d &&& 31)) else va_up w (2 + 8 * e + 7) (w (2 + 8 * e + 7) ||| 1 <<< ((nI d - 20) &&& 31))
theorem dp_lo : ∀ d, d < 20 → ((1 : Int32) <<< (nI d &&& 31)).toInt64 = bE d := by decide +kernel
theorem dp_hi : ∀ d, d < 40 → 20 ≤ d → ((1 : Int32) <<< ((nI d - 20) &&& 31)).toInt64 <<< ((20 : Int32).toInt64 &&& 63) = bE d := by decide +kernel
theorem dpW_dp {w : Nat → Int32} {e d : Nat} (hd : d < 40) : dpN (dpW w e d (2 + 8 * e + 6)) (dpW w e d (2 + 8 * e + 7)) = dpN (w (2 + 8 * e + 6)) (w (2 + 8 * e + 7)) ||| bE d := by
  unfold dpW dpN
  by_cases q : d < 20
  · rw [if_pos q, va_up_self, va_up_ne _ _ (by omega), or_s64, dp_lo d q, Int64.or_assoc]
  · rw [if_neg q, va_up_self, va_up_ne _ _ (by omega), or_s64, ← dp_hi d hd (by omega)]
    have : ∀ x y z : Int64, ((x ||| y) <<< ((20 : Int32).toInt64 &&& 63) ||| z) = ((x <<< ((20 : Int32).toInt64 &&& 63) ||| z) ||| y <<< ((20 : Int32).toInt64 &&& 63)) := by
      intro x y z
      have e : (x ||| y) <<< ((20 : Int32).toInt64 &&& 63) = x <<< ((20 : Int32).toInt64 &&& 63) ||| y <<< ((20 : Int32).toInt64 &&& 63) := by
        apply Int64.toBitVec_inj.1
        simp only [Int64.toBitVec_or, Int64.toBitVec_shiftLeft, BitVec.shiftLeft_eq', BitVec.shiftLeft_or_distrib]
      rw [e, Int64.or_assoc, Int64.or_assoc, Int64.or_comm z]
    rw [this]
theorem dpW_ne {w : Nat → Int32} {e d j : Nat} (h6 : j ≠ 2 + 8 * e + 6) (h7 : j ≠ 2 + 8 * e + 7) : dpW w e d j = w j := by
  unfold dpW
  split
  · exact va_up_ne _ _ h6
  · exact va_up_ne _ _ h7
