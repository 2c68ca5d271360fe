/-! the reference: its small functions over its row -/
def ModAt (M : SM) (m : Nat) : Prop := mK M m = (19, 0) ∧ mP M m 0 = some (m + 1) ∧ mP M m 1 = some (m + 2) ∧ mP M m 2 = some (m + 3) ∧ mP M m 4 = some (m + 4) ∧ mP M m 5 = some (m + 5) ∧ mP M m 6 = some (m + 6) ∧ mP M m 8 = some (m + 7) ∧ mP M m 9 = some (m + 8) ∧ mP M m 10 = some (m + 9) ∧ mK M (m + 1) = (1, 370) ∧ mK M (m + 2) = (1, 370) ∧ mK M (m + 3) = (1, 2220) ∧ mK M (m + 4) = (1, 740) ∧ mK M (m + 5) = (1, 2) ∧ mK M (m + 6) = (1, 80) ∧ mK M (m + 7) = (2, 40) ∧ mK M (m + 8) = (1, 40) ∧ mK M (m + 9) = (1, 48)
theorem ix8 (e p : Nat) : (2 : Int32) + 8 * nI e + nI p = nI (2 + 8 * e + p) := by
  rw [show (8 : Int32) = nI 8 from rfl, show (2 : Int32) = nI 2 from rfl, pk_mul, nI_add, nI_add]
theorem ix3 (f p : Nat) : (322 : Int32) + 3 * nI f + nI p = nI (322 + 3 * f + p) := by
  rw [show (3 : Int32) = nI 3 from rfl, show (322 : Int32) = nI 322 from rfl, pk_mul, nI_add, nI_add]
theorem c_within (v a b : Int32) (M : SM) : cl 104 [.int v, .int a, .int b] M = some (some (.int (if v < a ∨ b < v then 0 else 1)), M) := by
  show rn 104 0 [some (.int v), some (.int a), some (.int b)] [] M = _
  by_cases h1 : v < a <;> by_cases h2 : b < v <;> simp [t104_0, t104_1, t104_2, t104_5, t104_6, t104_7, t104_10, t104_11, t104_14, t104_15, h1, h2]
theorem c_mFile (x : Int32) (M : SM) : cl 105 [.int x] M = some (some (.int (if x < 0 ∨ 15 < x then 0 else 1)), M) := by
  show rn 105 0 [some (.int x)] [] M = _
  by_cases h1 : x < 0 <;> by_cases h2 : 15 < x <;> simp [t105_0, t105_1, t105_2, t105_4, t105_7, c_within, cbn_i, h1, h2]
theorem c_part {M : SM} {m e p : Nat} (h : ModAt M m) (he : e < 40) (hp : p < 8) : cl 111 [.ref m, .int (nI e), .int (nI p)] M = some (some (.int (mI M (m + 1) (2 + 8 * e + p))), M) := by
  show rn 111 0 [some (.ref m), some (.int (nI e)), some (.int (nI p))] [] M = _
  obtain ⟨h1, h2, -, -, -, -, -, -, -, -, k1, -⟩ := h
  simp only [t111_0, t111_1, t111_4, t111_5, t111_7, t111_8, t111_9, t111_10, t111_11, t111_12, t111_13, h1, h2, va_rf_s, ↓reduceIte, ix8, k1, i_inT (show 2 + 8 * e + p < 370 by omega) (by decide), true_or, and_self, nI_c (show 2 + 8 * e + p < 2147483648 by omega)]
theorem c_setPart {M : SM} {m e p : Nat} (h : ModAt M m) (he : e < 40) (hp : p < 8) (v : Int32) : cl 109 [.ref m, .int (nI e), .int (nI p), .int v] M = some (none, sI M (m + 1) (va_up (mI M (m + 1)) (2 + 8 * e + p) v)) := by
  show rn 109 0 [some (.ref m), some (.int (nI e)), some (.int (nI p)), some (.int v)] [] M = _
  obtain ⟨h1, h2, -, -, -, -, -, -, -, -, k1, -⟩ := h
  simp only [t109_0, t109_1, t109_4, t109_5, t109_7, t109_8, t109_9, t109_10, t109_11, t109_12, t109_13, t109_14, h1, h2, va_rf_s, ↓reduceIte, ix8, k1, i_inT (show 2 + 8 * e + p < 370 by omega) (by decide), and_self, nI_c (show 2 + 8 * e + p < 2147483648 by omega)]
theorem c_filePart {M : SM} {m f p : Nat} (h : ModAt M m) (hf : f < 16) (hp : p < 3) : cl 141 [.ref m, .int (nI f), .int (nI p)] M = some (some (.int (mI M (m + 1) (322 + 3 * f + p))), M) := by
  show rn 141 0 [some (.ref m), some (.int (nI f)), some (.int (nI p))] [] M = _
  obtain ⟨h1, h2, -, -, -, -, -, -, -, -, k1, -⟩ := h
  simp only [t141_0, t141_1, t141_4, t141_7, t141_8, t141_9, t141_10, t141_11, t141_12, t141_13, t141_14, h1, h2, va_rf_s, ↓reduceIte, ix3, k1, i_inT (show 322 + 3 * f + p < 370 by omega) (by decide), true_or, and_self, nI_c (show 322 + 3 * f + p < 2147483648 by omega)]
def rowF (w : Nat → Int32) (f : Nat) (a b c : Int32) : Nat → Int32 := va_up (va_up (va_up w (322 + 3 * f) a) (322 + 3 * f + 1) b) (322 + 3 * f + 2) c
theorem c_setFile {M : SM} {m f : Nat} (h : ModAt M m) (hf : f < 16) (a b c : Int32) : cl 101 [.ref m, .int (nI f), .int a, .int b, .int c] M = some (none, sI M (m + 1) (rowF (mI M (m + 1)) f a b c)) := by
  show rn 101 0 [some (.ref m), some (.int (nI f)), some (.int a), some (.int b), some (.int c)] [] M = _
  obtain ⟨h1, h2, -, -, -, -, -, -, -, -, k1, -⟩ := h
  have e0 := ix3 f 0
  have e1 := ix3 f 1
  have e2 := ix3 f 2
  rw [show nI 0 = 0 from rfl] at e0
  rw [show nI 1 = 1 from rfl] at e1
  rw [show nI 2 = 2 from rfl] at e2
  simp only [t101_0, t101_1, t101_4, t101_7, t101_8, t101_9, t101_10, t101_11, t101_12, t101_13, t101_14, t101_15, t101_16, t101_19, t101_22, t101_23, t101_24, t101_25, t101_26, t101_27, t101_28, t101_29, t101_30, t101_31, t101_34, t101_37, t101_38, t101_39, t101_40, t101_41, t101_42, t101_43, t101_45, t101_46, h1, h2, va_rf_s, ↓reduceIte, e0, e1, e2, k1, mK_sI, mP_sI, i_inT (show 322 + 3 * f + 0 < 370 by omega) (by decide), i_inT (show 322 + 3 * f + 1 < 370 by omega) (by decide), i_inT (show 322 + 3 * f + 2 < 370 by omega) (by decide), and_self, nI_c (show 322 + 3 * f + 0 < 2147483648 by omega), nI_c (show 322 + 3 * f + 1 < 2147483648 by omega), nI_c (show 322 + 3 * f + 2 < 2147483648 by omega), mI_sI, sI_sI]
  rfl
theorem c_mThere {M : SM} {m f : Nat} (h : ModAt M m) (hf : f < 16) : cl 140 [.ref m, .int (nI f)] M = some (some (.int (if mI M (m + 1) (322 + 3 * f) = 1 then 1 else 0)), M) := by
  show rn 140 0 [some (.ref m), some (.int (nI f))] [] M = _
  have e := c_filePart h hf (show 0 < 3 by decide)
  rw [show nI 0 = 0 from rfl] at e
  by_cases hv : mI M (m + 1) (322 + 3 * f) = 1 <;> simp [t140_0, t140_1, t140_2, t140_3, t140_6, t140_7, t140_10, t140_11, t140_14, t140_15, h.1, e, cbn_i, hv]
/-- what an entry depends on, by its two halves -/
def dpN (lo hi : Int32) : Int64 := hi.toInt64 <<< ((20 : Int32).toInt64 &&& 63) ||| lo.toInt64
theorem c_deps {M : SM} {m e : Nat} (h : ModAt M m) (he : e < 40) : cl 124 [.ref m, .int (nI e)] M = some (some (.long (dpN (mI M (m + 1) (2 + 8 * e + 6)) (mI M (m + 1) (2 + 8 * e + 7)))), M) := by
  show rn 124 0 [some (.ref m), some (.int (nI e))] [] M = _
  have e6 := c_part h he (show 6 < 8 by decide)
  have e7 := c_part h he (show 7 < 8 by decide)
  rw [show nI 6 = 6 from rfl] at e6
  rw [show nI 7 = 7 from rfl] at e7
  simp only [t124_0, t124_1, t124_2, t124_4, t124_7, t124_8, t124_10, t124_11, t124_12, t124_13, t124_15, t124_18, t124_19, t124_20, h.1, e6, e7, cbn_i, ↓reduceIte]
  rfl
theorem c_mHasDir {M : SM} {m e : Nat} (h : ModAt M m) (he : e < 40) : cl 114 [.ref m, .int (nI e)] M = some (some (.int (if mI M (m + 1) (2 + 8 * e) = 0 ∨ mI M (m + 1) (2 + 8 * e) = 2 then 1 else 0)), M) := by
  show rn 114 0 [some (.ref m), some (.int (nI e))] [] M = _
  have e0 := c_part h he (show 0 < 8 by decide)
  rw [show nI 0 = 0 from rfl] at e0
  by_cases h1 : mI M (m + 1) (2 + 8 * e) = 0 <;> by_cases h2 : mI M (m + 1) (2 + 8 * e) = 2 <;> simp [t114_0, t114_1, t114_2, t114_3, t114_6, t114_9, t114_10, t114_11, t114_12, t114_15, t114_16, t114_19, t114_20, t114_23, t114_24, h.1, e0, cbn_i, h1, h2]
theorem c_isEntry {M : SM} {m n : Nat} (h : ModAt M m) (hn : mI M (m + 1) 0 = nI n) (x : Int32) : cl 121 [.ref m, .int x] M = some (some (.int (if x < 0 ∨ nI n - 1 < x then 0 else 1)), M) := by
  show rn 121 0 [some (.ref m), some (.int x)] [] M = _
  obtain ⟨h1, h2, -, -, -, -, -, -, -, -, k1, -⟩ := h
  have hin : inR 0 370 = True := eq_true (by decide)
  have e1 : (0 : Int32).toNatClampNeg = 0 := by decide
  simp only [t121_0, t121_1, t121_2, t121_3, t121_6, t121_7, t121_8, t121_9, t121_10, t121_13, h1, h2, va_rf_s, ↓reduceIte, k1, hin, e1, true_or, and_self, hn, c_within, cbn_i]
  by_cases h1 : x < 0 <;> by_cases h2 : nI n - 1 < x <;> simp [h1, h2]
theorem c_bits (v : Int64) (M : SM) : cl 125 [.long v] M = some (some (.int (nI (cnt (bt v) 40))), M) := by
  show rn 125 0 [some (.long v), none, none, none] [] M = _
  generalize hR : cnt (bt v) 40 = R
  have lp : ∀ k, k ≤ 40 → rn 125 4 [some (.long v), none, some (.int (nI (cnt (bt v) k))), some (.int (nI k))] [] M = some (some (.int (nI R)), M) := by
    refine loopB ?_ ?_
    · rw [t125_4]
      simp [t125_0, t125_1, t125_2, t125_3, t125_5, t125_7, t125_10, t125_11, t125_12, t125_13, t125_14, t125_15, t125_16, t125_17, t125_18, t125_19, t125_22, t125_25, t125_26, le40 (show 40 < 2147483648 by omega), hR]
    · intro k hk ih
      rw [t125_4]
      cases hb : bt v k with
      | true =>
        have e : (1 : Int64).toInt32 = 1 := by decide
        simp only [t125_0, t125_1, t125_2, t125_3, t125_5, t125_7, t125_10, t125_11, t125_12, t125_13, t125_14, t125_15, t125_16, t125_17, t125_18, t125_19, t125_22, t125_25, t125_26, le40 (show k < 2147483648 by omega), show ¬ 40 ≤ k by omega, bt_read (show k < 64 by omega), hb, e, n1, ↓reduceIte]
        simpa only [cnt, hb, ↓reduceIte] using ih
      | false =>
        have e : (0 : Int64).toInt32 = 0 := by decide
        simp only [t125_0, t125_1, t125_2, t125_3, t125_5, t125_7, t125_10, t125_11, t125_12, t125_13, t125_14, t125_15, t125_16, t125_17, t125_18, t125_19, t125_22, t125_25, t125_26, le40 (show k < 2147483648 by omega), show ¬ 40 ≤ k by omega, bt_read (show k < 64 by omega), hb, n1, e, ↓reduceIte, Int32.add_zero, Bool.false_eq_true]
        simpa only [cnt, hb, ↓reduceIte, Bool.false_eq_true, Nat.add_zero] using ih
  simp only [t125_0, t125_1, t125_2, t125_3, t125_5, t125_7, t125_10, t125_11, t125_12, t125_13, t125_14, t125_15, t125_16, t125_17, t125_18, t125_19, t125_22, t125_25, t125_26]
  exact lp 0 (by decide)
theorem c_mLost {M : SM} {m n : Nat} (h : ModAt M m) (hn : mI M (m + 1) 0 = nI n) (h40 : n ≤ 40) : cl 129 [.ref m] M = some (some (.long (mk (fun e => decide (mI M (m + 1) (2 + 8 * e + 3) = 1)) n)), M) := by
  show rn 129 0 [some (.ref m), none, none, none] [] M = _
  have hm := h
  obtain ⟨h1, h2, -, -, -, -, -, -, -, -, k1, -⟩ := h
  have hin : inR 0 370 = True := eq_true (by decide)
  have e1 : (0 : Int32).toNatClampNeg = 0 := by decide
  generalize hp : (fun e => decide (mI M (m + 1) (2 + 8 * e + 3) = 1)) = p
  have hpk : ∀ k, p k = (decide (mI M (m + 1) (2 + 8 * k + 3) = 1)) := fun k => by rw [← hp]
  generalize hR : mk p n = R
  have lp : ∀ k, k ≤ n → rn 129 4 [some (.ref m), some (.long (mk p k)), none, some (.int (nI k))] [] M = some (some (.long R), M) := by
    refine loopB ?_ ?_
    · rw [t129_4]
      simp only [t129_0, t129_1, t129_2, t129_3, t129_5, t129_6, t129_9, t129_10, t129_11, t129_14, t129_15, t129_16, t129_17, t129_18, t129_21, t129_22, t129_25, t129_26, t129_27, t129_28, t129_31, t129_32, t129_33, t129_34, t129_37, t129_40, t129_41, h1, h2, va_rf_s, ↓reduceIte, k1, hin, e1, true_or, and_self, hn, i_le (show n < 2147483648 by omega) (show n < 2147483648 by omega), Nat.le_refl, hR]
    · intro k hk ih
      rw [t129_4]
      have hle : ¬ n ≤ k := by omega
      have hpk := hpk k
      have ep := c_part hm (show k < 40 by omega) (show 3 < 8 by decide)
      rw [show nI 3 = 3 from rfl] at ep
      by_cases hv : mI M (m + 1) (2 + 8 * k + 3) = 1
      · simp only [hv, decide_true] at hpk
        simp only [t129_0, t129_1, t129_2, t129_3, t129_5, t129_6, t129_9, t129_10, t129_11, t129_14, t129_15, t129_16, t129_17, t129_18, t129_21, t129_22, t129_25, t129_26, t129_27, t129_28, t129_31, t129_32, t129_33, t129_34, t129_37, t129_40, t129_41, h1, h2, va_rf_s, ↓reduceIte, k1, hin, e1, true_or, and_self, hn, i_le (show n < 2147483648 by omega) (show k < 2147483648 by omega), hle, ep, cbn_i, hv, n1, Int64.or_zero, not_true_eq_false, not_false_eq_true]
        simpa only [mk, hpk, ↓reduceIte, Bool.false_eq_true] using ih
      · simp only [hv, decide_false] at hpk
        simp only [t129_0, t129_1, t129_2, t129_3, t129_5, t129_6, t129_9, t129_10, t129_11, t129_14, t129_15, t129_16, t129_17, t129_18, t129_21, t129_22, t129_25, t129_26, t129_27, t129_28, t129_31, t129_32, t129_33, t129_34, t129_37, t129_40, t129_41, h1, h2, va_rf_s, ↓reduceIte, k1, hin, e1, true_or, and_self, hn, i_le (show n < 2147483648 by omega) (show k < 2147483648 by omega), hle, ep, cbn_i, hv, n1, Int64.or_zero, not_true_eq_false, not_false_eq_true]
        simpa only [mk, hpk, ↓reduceIte, Bool.false_eq_true] using ih
  simp only [t129_0, t129_1, t129_2, t129_3, t129_5, t129_6, t129_9, t129_10, t129_11, t129_14, t129_15, t129_16, t129_17, t129_18, t129_21, t129_22, t129_25, t129_26, t129_27, t129_28, t129_31, t129_32, t129_33, t129_34, t129_37, t129_40, t129_41]
  exact lp 0 (Nat.zero_le _)
theorem c_mReplayed {M : SM} {m n : Nat} (h : ModAt M m) (hn : mI M (m + 1) 0 = nI n) (h40 : n ≤ 40) : cl 134 [.ref m] M = some (some (.long (mk (fun e => !decide (mI M (m + 1) (2 + 8 * e + 4) = -6)) n)), M) := by
  show rn 134 0 [some (.ref m), none, none, none] [] M = _
  have hm := h
  obtain ⟨h1, h2, -, -, -, -, -, -, -, -, k1, -⟩ := h
  have hin : inR 0 370 = True := eq_true (by decide)
  have e1 : (0 : Int32).toNatClampNeg = 0 := by decide
  generalize hp : (fun e => !decide (mI M (m + 1) (2 + 8 * e + 4) = -6)) = p
  have hpk : ∀ k, p k = (!decide (mI M (m + 1) (2 + 8 * k + 4) = -6)) := fun k => by rw [← hp]
  generalize hR : mk p n = R
  have lp : ∀ k, k ≤ n → rn 134 4 [some (.ref m), some (.long (mk p k)), none, some (.int (nI k))] [] M = some (some (.long R), M) := by
    refine loopB ?_ ?_
    · rw [t134_4]
      simp only [t134_0, t134_1, t134_2, t134_3, t134_5, t134_6, t134_9, t134_10, t134_11, t134_14, t134_15, t134_16, t134_17, t134_18, t134_21, t134_23, t134_26, t134_27, t134_30, t134_31, t134_32, t134_33, t134_34, t134_35, t134_38, t134_41, t134_42, h1, h2, va_rf_s, ↓reduceIte, k1, hin, e1, true_or, and_self, hn, i_le (show n < 2147483648 by omega) (show n < 2147483648 by omega), Nat.le_refl, hR]
    · intro k hk ih
      rw [t134_4]
      have hle : ¬ n ≤ k := by omega
      have hpk := hpk k
      have ep := c_part hm (show k < 40 by omega) (show 4 < 8 by decide)
      rw [show nI 4 = 4 from rfl] at ep
      by_cases hv : mI M (m + 1) (2 + 8 * k + 4) = -6
      · simp only [hv, decide_true, Bool.not_true] at hpk
        simp only [t134_0, t134_1, t134_2, t134_3, t134_5, t134_6, t134_9, t134_10, t134_11, t134_14, t134_15, t134_16, t134_17, t134_18, t134_21, t134_23, t134_26, t134_27, t134_30, t134_31, t134_32, t134_33, t134_34, t134_35, t134_38, t134_41, t134_42, h1, h2, va_rf_s, ↓reduceIte, k1, hin, e1, true_or, and_self, hn, i_le (show n < 2147483648 by omega) (show k < 2147483648 by omega), hle, ep, cbn_i, hv, n1, Int64.or_zero, not_true_eq_false, not_false_eq_true]
        simpa only [mk, hpk, ↓reduceIte, Bool.false_eq_true] using ih
      · simp only [hv, decide_false, Bool.not_false] at hpk
        simp only [t134_0, t134_1, t134_2, t134_3, t134_5, t134_6, t134_9, t134_10, t134_11, t134_14, t134_15, t134_16, t134_17, t134_18, t134_21, t134_23, t134_26, t134_27, t134_30, t134_31, t134_32, t134_33, t134_34, t134_35, t134_38, t134_41, t134_42, h1, h2, va_rf_s, ↓reduceIte, k1, hin, e1, true_or, and_self, hn, i_le (show n < 2147483648 by omega) (show k < 2147483648 by omega), hle, ep, cbn_i, hv, n1, Int64.or_zero, not_true_eq_false, not_false_eq_true]
        simpa only [mk, hpk, ↓reduceIte, Bool.false_eq_true] using ih
  simp only [t134_0, t134_1, t134_2, t134_3, t134_5, t134_6, t134_9, t134_10, t134_11, t134_14, t134_15, t134_16, t134_17, t134_18, t134_21, t134_23, t134_26, t134_27, t134_30, t134_31, t134_32, t134_33, t134_34, t134_35, t134_38, t134_41, t134_42]
  exact lp 0 (Nat.zero_le _)
theorem c_mRefused {M : SM} {m n : Nat} (h : ModAt M m) (hn : mI M (m + 1) 0 = nI n) (h40 : n ≤ 40) : cl 153 [.ref m] M = some (some (.long (mk (fun e => !decide (mI M (m + 1) (2 + 8 * e + 5) ≤ 0)) n)), M) := by
  show rn 153 0 [some (.ref m), none, none, none] [] M = _
  have hm := h
  obtain ⟨h1, h2, -, -, -, -, -, -, -, -, k1, -⟩ := h
  have hin : inR 0 370 = True := eq_true (by decide)
  have e1 : (0 : Int32).toNatClampNeg = 0 := by decide
  generalize hp : (fun e => !decide (mI M (m + 1) (2 + 8 * e + 5) ≤ 0)) = p
  have hpk : ∀ k, p k = (!decide (mI M (m + 1) (2 + 8 * k + 5) ≤ 0)) := fun k => by rw [← hp]
  generalize hR : mk p n = R
  have lp : ∀ k, k ≤ n → rn 153 4 [some (.ref m), some (.long (mk p k)), none, some (.int (nI k))] [] M = some (some (.long R), M) := by
    refine loopB ?_ ?_
    · rw [t153_4]
      simp only [t153_0, t153_1, t153_2, t153_3, t153_5, t153_6, t153_9, t153_10, t153_11, t153_14, t153_15, t153_16, t153_17, t153_18, t153_21, t153_24, t153_25, t153_26, t153_27, t153_30, t153_31, t153_32, t153_33, t153_36, t153_39, t153_40, h1, h2, va_rf_s, ↓reduceIte, k1, hin, e1, true_or, and_self, hn, i_le (show n < 2147483648 by omega) (show n < 2147483648 by omega), Nat.le_refl, hR]
    · intro k hk ih
      rw [t153_4]
      have hle : ¬ n ≤ k := by omega
      have hpk := hpk k
      have ep := c_part hm (show k < 40 by omega) (show 5 < 8 by decide)
      rw [show nI 5 = 5 from rfl] at ep
      by_cases hv : mI M (m + 1) (2 + 8 * k + 5) ≤ 0
      · simp only [hv, decide_true, Bool.not_true] at hpk
        simp only [t153_0, t153_1, t153_2, t153_3, t153_5, t153_6, t153_9, t153_10, t153_11, t153_14, t153_15, t153_16, t153_17, t153_18, t153_21, t153_24, t153_25, t153_26, t153_27, t153_30, t153_31, t153_32, t153_33, t153_36, t153_39, t153_40, h1, h2, va_rf_s, ↓reduceIte, k1, hin, e1, true_or, and_self, hn, i_le (show n < 2147483648 by omega) (show k < 2147483648 by omega), hle, ep, cbn_i, hv, n1, Int64.or_zero, not_true_eq_false, not_false_eq_true]
        simpa only [mk, hpk, ↓reduceIte, Bool.false_eq_true] using ih
      · simp only [hv, decide_false, Bool.not_false] at hpk
        simp only [t153_0, t153_1, t153_2, t153_3, t153_5, t153_6, t153_9, t153_10, t153_11, t153_14, t153_15, t153_16, t153_17, t153_18, t153_21, t153_24, t153_25, t153_26, t153_27, t153_30, t153_31, t153_32, t153_33, t153_36, t153_39, t153_40, h1, h2, va_rf_s, ↓reduceIte, k1, hin, e1, true_or, and_self, hn, i_le (show n < 2147483648 by omega) (show k < 2147483648 by omega), hle, ep, cbn_i, hv, n1, Int64.or_zero, not_true_eq_false, not_false_eq_true]
        simpa only [mk, hpk, ↓reduceIte, Bool.false_eq_true] using ih
  simp only [t153_0, t153_1, t153_2, t153_3, t153_5, t153_6, t153_9, t153_10, t153_11, t153_14, t153_15, t153_16, t153_17, t153_18, t153_21, t153_24, t153_25, t153_26, t153_27, t153_30, t153_31, t153_32, t153_33, t153_36, t153_39, t153_40]
  exact lp 0 (Nat.zero_le _)
