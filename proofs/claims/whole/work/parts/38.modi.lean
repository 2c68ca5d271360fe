/-! the reference: why not written; counts of its tree -/
theorem c_whyNotWritten {M : SM} {m n : Nat} (h : ModAt M m) (hn : mI M (m + 1) 0 = nI n) (h40 : n ≤ 40) (f d v : Int32) : cl 103 [.ref m, .int f, .int d, .int v] M = some (some (.int (if (f < 1 ∨ 15 < f) ∨ (d < 0 ∨ 15 < d) then -1 else if v < 0 ∨ 999 < v then -2 else if n = 40 then -4 else 0)), M) := by
  show rn 103 0 [some (.ref m), some (.int f), some (.int d), some (.int v)] [] M = _
  obtain ⟨h1, h2, -, -, -, -, -, -, -, -, k1, -⟩ := h
  have hin : inR 0 370 = True := eq_true (by decide)
  have e1 : (0 : Int32).toNatClampNeg = 0 := by decide
  have one0 : ((1 : Int32) = 0) = False := by decide
  have e40 : (nI n = 40) = (n = 40) := nI_inj (a := n) (b := 40) (by omega) (by decide)
  simp only [← e40]
  by_cases q1 : f < 1 ∨ 15 < f <;> by_cases q2 : d < 0 ∨ 15 < d <;> by_cases q3 : v < 0 ∨ 999 < v <;> by_cases q4 : nI n = 40 <;>
    simp only [t103_0, t103_1, t103_2, t103_4, t103_7, t103_10, t103_11, t103_14, t103_17, t103_18, t103_19, t103_20, t103_21, t103_24, t103_27, t103_30, t103_32, t103_35, t103_36, t103_39, t103_40, t103_41, t103_43, t103_46, t103_48, t103_51, t103_52, c_within, c_mFile, cbn_i, h1, h2, va_rf_s, k1, hin, e1, true_or, and_self, hn, q1, q2, q3, q4, one0, or_true, or_false, false_or, or_self, ↓reduceIte, not_true_eq_false, not_false_eq_true]
theorem c_filesThere {M : SM} {m : Nat} {D V : Nat → Int32} (h : ModAt M m) (hT : TR (mI M (m + 1)) D V) : cl 154 [.ref m] M = some (some (.int (nI (cnt (fun f => !decide (V f = -6)) 16))), M) := by
  show rn 154 0 [some (.ref m), none, none] [] M = _
  have h1 := h.1
  generalize hp : (fun f => !decide (V f = -6)) = p
  have hpk : ∀ k, p k = !decide (V k = -6) := fun k => by rw [← hp]
  generalize hR : cnt p 16 = R
  have lp : ∀ k, k ≤ 16 → rn 154 4 [some (.ref m), some (.int (nI (cnt p k))), some (.int (nI k))] [] M = some (some (.int (nI R)), M) := by
    refine loopB ?_ ?_
    · rw [t154_4]
      simp only [t154_0, t154_1, t154_2, t154_3, t154_5, t154_7, t154_10, t154_11, t154_12, t154_13, t154_14, t154_17, t154_18, t154_19, t154_22, t154_25, t154_26, le16 (show 16 < 2147483648 by omega), Nat.le_refl, ↓reduceIte, hR]
    · intro k hk ih
      rw [t154_4]
      have hle : ¬ 16 ≤ k := by omega
      have hpk := hpk k
      have e := c_filePart h hk (show 0 < 3 by decide)
      rw [show nI 0 = 0 from rfl, show 322 + 3 * k + 0 = 322 + 3 * k from rfl, (hT k hk).1] at e
      by_cases hv : V k = -6
      · simp only [hv, decide_true, Bool.not_true] at hpk
        simp only [hv, ↓reduceIte] at e
        simp only [t154_0, t154_1, t154_2, t154_3, t154_5, t154_7, t154_10, t154_11, t154_12, t154_13, t154_14, t154_17, t154_18, t154_19, t154_22, t154_25, t154_26, le16 (show k < 2147483648 by omega), hle, h1, e, cbn_i, ↓reduceIte, n1, Int32.add_zero]
        simpa only [cnt, hpk, ↓reduceIte, Bool.false_eq_true, Nat.add_zero] using ih
      · simp only [hv, decide_false, Bool.not_false] at hpk
        simp only [hv, ↓reduceIte] at e
        simp only [t154_0, t154_1, t154_2, t154_3, t154_5, t154_7, t154_10, t154_11, t154_12, t154_13, t154_14, t154_17, t154_18, t154_19, t154_22, t154_25, t154_26, le16 (show k < 2147483648 by omega), hle, h1, e, cbn_i, ↓reduceIte, n1]
        simpa only [cnt, hpk, ↓reduceIte] using ih
  simp only [t154_0, t154_1, t154_2, t154_3, t154_5, t154_7, t154_10, t154_11, t154_12, t154_13, t154_14, t154_17, t154_18, t154_19, t154_22, t154_25, t154_26]
  exact lp 0 (by decide)
theorem c_allUnder {M : SM} {m d : Nat} {D V : Nat → Int32} (h : ModAt M m) (hT : TR (mI M (m + 1)) D V) (hI : TI D V) (hd : d < 16) : cl 151 [.ref m, .int (nI d)] M = some (some (.int (nI (cnt (fun f => !decide (nI f = nI d) && lies D 16 (nI f) (nI d)) 16))), M) := by
  show rn 151 0 [some (.ref m), some (.int (nI d)), none, none] [] M = _
  have h1 := h.1
  generalize hp : (fun f => !decide (nI f = nI d) && lies D 16 (nI f) (nI d)) = p
  have hpk : ∀ k, p k = (!decide (nI k = nI d) && lies D 16 (nI k) (nI d)) := fun k => by rw [← hp]
  have absent : ∀ k, k < 16 → D k = -6 → p k = false := fun k hk hD => by
    rw [hpk]
    by_cases q : nI k = nI d
    · simp [q]
    · simp [lies, isF_n hk, q, nI_c (show k < 2147483648 by omega), hD, f6]
  generalize hR : cnt p 16 = R
  have lp : ∀ k, k ≤ 16 → rn 151 4 [some (.ref m), some (.int (nI d)), some (.int (nI (cnt p k))), some (.int (nI k))] [] M = some (some (.int (nI R)), M) := by
    refine loopB ?_ ?_
    · rw [t151_4]
      simp only [t151_0, t151_1, t151_2, t151_3, t151_5, t151_7, t151_10, t151_11, t151_12, t151_13, t151_16, t151_17, t151_18, t151_21, t151_24, t151_25, t151_26, t151_27, t151_30, t151_33, t151_34, t151_37, t151_38, t151_39, t151_40, t151_43, t151_46, t151_47, le16 (show 16 < 2147483648 by omega), Nat.le_refl, ↓reduceIte, hR]
    · intro k hk ih
      rw [t151_4]
      have hle : ¬ 16 ≤ k := by omega
      have hpk := hpk k
      have hab := absent k hk
      have one0 : ((1 : Int32) = 0) = False := by decide
      have et := c_mThere h hk
      simp only [th_T hT hk] at et
      have eu := c_isUnder h hT hI hk hd
      by_cases q : k = d
      · subst q
        simp only [decide_true, Bool.not_true, Bool.false_and] at hpk
        simp only [t151_0, t151_1, t151_2, t151_3, t151_5, t151_7, t151_10, t151_11, t151_12, t151_13, t151_16, t151_17, t151_18, t151_21, t151_24, t151_25, t151_26, t151_27, t151_30, t151_33, t151_34, t151_37, t151_38, t151_39, t151_40, t151_43, t151_46, t151_47, le16 (show k < 2147483648 by omega), hle, ↓reduceIte, Int32.add_zero]
        simpa only [cnt, hpk, ↓reduceIte, Bool.false_eq_true, Nat.add_zero, n1] using ih
      · have q : (nI k = nI d) = False := by rw [nI_inj (by omega) (by omega)]; exact eq_false q
        by_cases hv : V k = -6
        · have hpf := hab (hI.2.2.1 k hk hv)
          simp only [hv, not_true_eq_false, ↓reduceIte] at et
          simp only [t151_0, t151_1, t151_2, t151_3, t151_5, t151_7, t151_10, t151_11, t151_12, t151_13, t151_16, t151_17, t151_18, t151_21, t151_24, t151_25, t151_26, t151_27, t151_30, t151_33, t151_34, t151_37, t151_38, t151_39, t151_40, t151_43, t151_46, t151_47, le16 (show k < 2147483648 by omega), hle, q, h1, et, cbn_i, ↓reduceIte, n1, Int32.add_zero]
          simpa only [cnt, hpf, ↓reduceIte, Bool.false_eq_true, Nat.add_zero] using ih
        · simp only [hv, not_false_eq_true, ↓reduceIte] at et
          cases hl : lies D 16 (nI k) (nI d) with
          | true =>
            simp only [q, hl, decide_false, Bool.not_false, Bool.and_self] at hpk
            simp only [hl, ↓reduceIte] at eu
            simp only [t151_0, t151_1, t151_2, t151_3, t151_5, t151_7, t151_10, t151_11, t151_12, t151_13, t151_16, t151_17, t151_18, t151_21, t151_24, t151_25, t151_26, t151_27, t151_30, t151_33, t151_34, t151_37, t151_38, t151_39, t151_40, t151_43, t151_46, t151_47, le16 (show k < 2147483648 by omega), hle, q, h1, et, eu, cbn_i, ↓reduceIte, n1, one0]
            simpa only [cnt, hpk, ↓reduceIte] using ih
          | false =>
            simp only [q, hl, decide_false, Bool.not_false, Bool.and_false] at hpk
            simp only [hl, ↓reduceIte, Bool.false_eq_true] at eu
            simp only [t151_0, t151_1, t151_2, t151_3, t151_5, t151_7, t151_10, t151_11, t151_12, t151_13, t151_16, t151_17, t151_18, t151_21, t151_24, t151_25, t151_26, t151_27, t151_30, t151_33, t151_34, t151_37, t151_38, t151_39, t151_40, t151_43, t151_46, t151_47, le16 (show k < 2147483648 by omega), hle, q, h1, et, eu, cbn_i, ↓reduceIte, n1, one0, Int32.add_zero]
            simpa only [cnt, hpk, ↓reduceIte, Bool.false_eq_true, Nat.add_zero] using ih
  have h0 := lp 1 (by decide)
  have z1 : cnt p 1 = 0 := by
    have := absent 0 (by decide) hI.1
    simp [cnt, this]
  rw [z1] at h0
  simp only [t151_0, t151_1, t151_2, t151_3, t151_5, t151_7, t151_10, t151_11, t151_12, t151_13, t151_16, t151_17, t151_18, t151_21, t151_24, t151_25, t151_26, t151_27, t151_30, t151_33, t151_34, t151_37, t151_38, t151_39, t151_40, t151_43, t151_46, t151_47]
  exact h0
