/-! the reference: what its log's functions answer -/
/-- the last one below n with the property -/
def lastI (p : Nat → Bool) : Nat → Int32
  | 0 => -6
  | n + 1 => if p n = true then nI n else lastI p n
/-- .. counted up, as the reference does -/
theorem c_latestOf {M : SM} {m n : Nat} (h : ModAt M m) (h40 : n ≤ 40) (f : Int32) : cl 110 [.ref m, .int (nI n), .int f] M = some (some (.int (lastI (fun e => decide (mI M (m + 1) (2 + 8 * e + 1) = f)) n)), M) := by
  show rn 110 0 [some (.ref m), some (.int (nI n)), some (.int f), none, none] [] M = _
  have h1 := h.1
  generalize hp : (fun e => decide (mI M (m + 1) (2 + 8 * e + 1) = f)) = p
  have hpk : ∀ k, p k = decide (mI M (m + 1) (2 + 8 * k + 1) = f) := fun k => by rw [← hp]
  generalize hR : lastI p n = R
  have lp : ∀ k, k ≤ n → rn 110 6 [some (.ref m), some (.int (nI n)), some (.int f), some (.int (lastI p k)), some (.int (nI k))] [] M = some (some (.int R), M) := by
    refine loopB ?_ ?_
    · rw [t110_6]
      simp only [t110_0, t110_2, t110_3, t110_4, t110_8, t110_9, t110_12, t110_13, t110_15, t110_16, t110_19, t110_20, t110_23, t110_25, t110_28, t110_29, t110_30, t110_33, t110_36, t110_37, leN n (show n < 2147483648 by omega) (show n < 2147483648 by omega), Nat.le_refl, ↓reduceIte, hR]
    · intro k hk ih
      rw [t110_6]
      have hle : ¬ n ≤ k := by omega
      have hpk := hpk k
      have e := c_part h (show k < 40 by omega) (show 1 < 8 by decide)
      rw [show nI 1 = 1 from rfl] at e
      by_cases hq : mI M (m + 1) (2 + 8 * k + 1) = f
      · simp only [hq, decide_true] at hpk
        simp only [t110_0, t110_2, t110_3, t110_4, t110_8, t110_9, t110_12, t110_13, t110_15, t110_16, t110_19, t110_20, t110_23, t110_25, t110_28, t110_29, t110_30, t110_33, t110_36, t110_37, leN n (show n < 2147483648 by omega) (show k < 2147483648 by omega), hle, h1, e, cbn_i, hq, ↓reduceIte, not_true_eq_false, n1]
        simpa only [lastI, hpk, ↓reduceIte] using ih
      · simp only [hq, decide_false] at hpk
        simp only [t110_0, t110_2, t110_3, t110_4, t110_8, t110_9, t110_12, t110_13, t110_15, t110_16, t110_19, t110_20, t110_23, t110_25, t110_28, t110_29, t110_30, t110_33, t110_36, t110_37, leN n (show n < 2147483648 by omega) (show k < 2147483648 by omega), hle, h1, e, cbn_i, hq, ↓reduceIte, not_false_eq_true, n1]
        simpa only [lastI, hpk, ↓reduceIte, Bool.false_eq_true] using ih
  simp only [t110_0, t110_2, t110_3, t110_4, t110_8, t110_9, t110_12, t110_13, t110_15, t110_16, t110_19, t110_20, t110_23, t110_25, t110_28, t110_29, t110_30, t110_33, t110_36, t110_37]
  exact lp 0 (Nat.zero_le _)
theorem c_latestIn {M : SM} {m n : Nat} (h : ModAt M m) (h40 : n ≤ 40) (f : Int32) : cl 115 [.ref m, .int (nI n), .int f] M = some (some (.int (lastI (fun e => decide (mI M (m + 1) (2 + 8 * e) = 0 ∨ mI M (m + 1) (2 + 8 * e) = 2) && decide (mI M (m + 1) (2 + 8 * e + 2) = f)) n)), M) := by
  show rn 115 0 [some (.ref m), some (.int (nI n)), some (.int f), none, none] [] M = _
  have h1 := h.1
  generalize hp : (fun e => decide (mI M (m + 1) (2 + 8 * e) = 0 ∨ mI M (m + 1) (2 + 8 * e) = 2) && decide (mI M (m + 1) (2 + 8 * e + 2) = f)) = p
  have hpk : ∀ k, p k = (decide (mI M (m + 1) (2 + 8 * k) = 0 ∨ mI M (m + 1) (2 + 8 * k) = 2) && decide (mI M (m + 1) (2 + 8 * k + 2) = f)) := fun k => by rw [← hp]
  generalize hR : lastI p n = R
  have lp : ∀ k, k ≤ n → rn 115 6 [some (.ref m), some (.int (nI n)), some (.int f), some (.int (lastI p k)), some (.int (nI k))] [] M = some (some (.int R), M) := by
    refine loopB ?_ ?_
    · rw [t115_6]
      simp only [t115_0, t115_2, t115_3, t115_4, t115_8, t115_9, t115_12, t115_13, t115_15, t115_18, t115_21, t115_22, t115_24, t115_25, t115_28, t115_29, t115_32, t115_34, t115_37, t115_38, t115_39, t115_42, t115_45, t115_46, leN n (show n < 2147483648 by omega) (show n < 2147483648 by omega), Nat.le_refl, ↓reduceIte, hR]
    · intro k hk ih
      rw [t115_6]
      have hle : ¬ n ≤ k := by omega
      have hpk := hpk k
      have e := c_part h (show k < 40 by omega) (show 2 < 8 by decide)
      rw [show nI 2 = 2 from rfl] at e
      have ed := c_mHasDir h (show k < 40 by omega)
      by_cases hd : mI M (m + 1) (2 + 8 * k) = 0 ∨ mI M (m + 1) (2 + 8 * k) = 2
      · by_cases hq : mI M (m + 1) (2 + 8 * k + 2) = f
        · simp only [hq, hd, decide_true, Bool.and_self] at hpk
          simp only [hd, ↓reduceIte] at ed
          simp only [t115_0, t115_2, t115_3, t115_4, t115_8, t115_9, t115_12, t115_13, t115_15, t115_18, t115_21, t115_22, t115_24, t115_25, t115_28, t115_29, t115_32, t115_34, t115_37, t115_38, t115_39, t115_42, t115_45, t115_46, leN n (show n < 2147483648 by omega) (show k < 2147483648 by omega), hle, h1, e, ed, cbn_i, hq, ↓reduceIte, not_true_eq_false, n1, (by decide : ((1 : Int32) = 0) = False)]
          simpa only [lastI, hpk, ↓reduceIte] using ih
        · simp only [hq, decide_false, Bool.and_false] at hpk
          simp only [hd, ↓reduceIte] at ed
          simp only [t115_0, t115_2, t115_3, t115_4, t115_8, t115_9, t115_12, t115_13, t115_15, t115_18, t115_21, t115_22, t115_24, t115_25, t115_28, t115_29, t115_32, t115_34, t115_37, t115_38, t115_39, t115_42, t115_45, t115_46, leN n (show n < 2147483648 by omega) (show k < 2147483648 by omega), hle, h1, e, ed, cbn_i, hq, ↓reduceIte, not_false_eq_true, n1, (by decide : ((1 : Int32) = 0) = False)]
          simpa only [lastI, hpk, ↓reduceIte, Bool.false_eq_true] using ih
      · simp only [hd, decide_false, Bool.false_and] at hpk
        simp only [hd, ↓reduceIte] at ed
        simp only [t115_0, t115_2, t115_3, t115_4, t115_8, t115_9, t115_12, t115_13, t115_15, t115_18, t115_21, t115_22, t115_24, t115_25, t115_28, t115_29, t115_32, t115_34, t115_37, t115_38, t115_39, t115_42, t115_45, t115_46, leN n (show n < 2147483648 by omega) (show k < 2147483648 by omega), hle, h1, e, ed, cbn_i, ↓reduceIte, not_false_eq_true, n1]
        simpa only [lastI, hpk, ↓reduceIte, Bool.false_eq_true] using ih
  simp only [t115_0, t115_2, t115_3, t115_4, t115_8, t115_9, t115_12, t115_13, t115_15, t115_18, t115_21, t115_22, t115_24, t115_25, t115_28, t115_29, t115_32, t115_34, t115_37, t115_38, t115_39, t115_42, t115_45, t115_46]
  exact lp 0 (Nat.zero_le _)
theorem or_s64 (a b : Int32) : (a ||| b).toInt64 = a.toInt64 ||| b.toInt64 := Int32.toInt64_or a b
/-- one entry more that it depends on -/
def dpW (w : Nat → Int32) (e d : Nat) : Nat → Int32 := if d < 20 then va_up w (2 + 8 * e + 6) (w (2 + 8 * e + 6) ||| 1 <<< (nI d &&& 31)) else va_up w (2 + 8 * e + 7) (w (2 + 8 * e + 7) ||| 1 <<< ((nI d - 20) &&& 31))
theorem c_depends {M : SM} {m e d : Nat} (h : ModAt M m) (he : e < 40) (hd : d < 40) : cl 113 [.ref m, .int (nI e), .int (nI d)] M = some (none, sI M (m + 1) (dpW (mI M (m + 1)) e d)) := by
  show rn 113 0 [some (.ref m), some (.int (nI e)), some (.int (nI d))] [] M = _
  have h1 := h.1
  have p6 := c_part h he (show 6 < 8 by decide)
  have p7 := c_part h he (show 7 < 8 by decide)
  have s6 := fun v => c_setPart h he (show 6 < 8 by decide) v
  have s7 := fun v => c_setPart h he (show 7 < 8 by decide) v
  rw [show nI 6 = 6 from rfl] at p6 s6
  rw [show nI 7 = 7 from rfl] at p7 s7
  have c20 : ((20 : Int32) ≤ nI d) = (20 ≤ d) := i_le (a := 20) (by decide) (by omega)
  by_cases hd : d < 20
  · have hn : (20 ≤ d) = False := eq_false (by omega)
    simp only [t113_0, t113_1, t113_3, t113_6, t113_7, t113_8, t113_10, t113_11, t113_12, t113_14, t113_17, t113_18, t113_19, t113_20, t113_21, t113_24, t113_27, t113_28, t113_29, t113_31, t113_32, t113_33, t113_35, t113_38, t113_39, t113_40, t113_42, t113_43, t113_44, t113_45, t113_48, h1, p6, s6, c20, hn, cbn_i, cbn_v, ↓reduceIte, dpW, hd]
  · have hn : (20 ≤ d) = True := eq_true (by omega)
    simp only [t113_0, t113_1, t113_3, t113_6, t113_7, t113_8, t113_10, t113_11, t113_12, t113_14, t113_17, t113_18, t113_19, t113_20, t113_21, t113_24, t113_27, t113_28, t113_29, t113_31, t113_32, t113_33, t113_35, t113_38, t113_39, t113_40, t113_42, t113_43, t113_44, t113_45, t113_48, h1, p7, s7, c20, hn, cbn_i, cbn_v, ↓reduceIte, dpW, hd]
theorem dp_lo : ∀ d, d < 20 → ((1 : Int32) <<< (nI d &&& 31)).toInt64 = bE d := by decide +kernel
theorem dp_hi : ∀ d, d < 40 → 20 ≤ d → ((1 : Int32) <<< ((nI d - 20) &&& 31)).toInt64 <<< ((20 : Int32).toInt64 &&& 63) = bE d := by decide +kernel
theorem dpW_dp {w : Nat → Int32} {e d : Nat} (hd : d < 40) : dpN (dpW w e d (2 + 8 * e + 6)) (dpW w e d (2 + 8 * e + 7)) = dpN (w (2 + 8 * e + 6)) (w (2 + 8 * e + 7)) ||| bE d := by
  unfold dpW dpN
  by_cases q : d < 20
  · rw [if_pos q, va_up_self, va_up_ne _ _ (by omega), or_s64, dp_lo d q, Int64.or_assoc]
  · rw [if_neg q, va_up_self, va_up_ne _ _ (by omega), or_s64, ← dp_hi d hd (by omega)]
    have : ∀ x y z : Int64, ((x ||| y) <<< ((20 : Int32).toInt64 &&& 63) ||| z) = ((x <<< ((20 : Int32).toInt64 &&& 63) ||| z) ||| y <<< ((20 : Int32).toInt64 &&& 63)) := by
      intro x y z
      have e : (x ||| y) <<< ((20 : Int32).toInt64 &&& 63) = x <<< ((20 : Int32).toInt64 &&& 63) ||| y <<< ((20 : Int32).toInt64 &&& 63) := by
        apply Int64.toBitVec_inj.1
        simp only [Int64.toBitVec_or, Int64.toBitVec_shiftLeft, BitVec.shiftLeft_eq', BitVec.shiftLeft_or_distrib]
      rw [e, Int64.or_assoc, Int64.or_assoc, Int64.or_comm z]
    rw [this]
theorem dpW_ne {w : Nat → Int32} {e d j : Nat} (h6 : j ≠ 2 + 8 * e + 6) (h7 : j ≠ 2 + 8 * e + 7) : dpW w e d j = w j := by
  unfold dpW
  split
  · exact va_up_ne _ _ h6
  · exact va_up_ne _ _ h7
