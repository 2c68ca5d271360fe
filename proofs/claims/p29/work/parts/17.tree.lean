/-! as in whole -/
theorem le16 {k : Nat} (hk : k < 2147483648) : ((16 : Int32) ≤ nI k) = (16 ≤ k) := i_le (a := 16) (by decide) hk
theorem lt0 {k : Nat} (hk : k < 2147483648) : (nI k < 0) = False := eq_false (nI_pos hk)
theorem n1 (k : Nat) : nI k + 1 = nI (k + 1) := nI_1 k
/-- a file's number -/
def isF (x : Int32) : Bool := decide (¬ (x < 0 ∨ 16 ≤ x))
theorem isF_no {x : Int32} (h : isF x = false) : (x < 0 ∨ 16 ≤ x) = True := by
  unfold isF at h
  rw [decide_eq_false_iff_not, Classical.not_not] at h
  exact eq_true h
theorem isF_of {x : Int32} (h : isF x = true) : ∃ j, j < 16 ∧ x = nI j := by
  unfold isF at h
  rw [decide_eq_true_eq] at h
  rcases pk_ix x (n := 16) (by decide) with q | q | q
  · exact absurd (Or.inl q) h
  · exact absurd (Or.inr q) h
  · exact q
theorem isF_n {j : Nat} (h : j < 16) : isF (nI j) = true := by
  unfold isF
  rw [decide_eq_true_eq, le16 (by omega), lt0 (by omega), false_or]
  omega
theorem isF_ok {j : Nat} (h : j < 16) : (nI j < 0 ∨ 16 ≤ nI j) = False := eq_false (by rw [le16 (by omega), lt0 (by omega), false_or]; omega)
theorem c_has {M : SM} {t j : Nat} (h : TreeAt M t) (hj : j < 16) : cl 52 [.ref t, .int (nI j)] M = some (some (.int (if tV M t j = -6 then 0 else 1)), M) := by
  show rn 52 0 [some (.ref t), some (.int (nI j))] [] M = _
  obtain ⟨h1, h2, h3, h4, h5⟩ := h
  by_cases hv : mI M (t + 2) j = -6
  · simp [t52_0, t52_1, t52_4, t52_5, t52_7, t52_10, t52_11, t52_14, t52_15, t52_16, t52_18, t52_21, t52_22, t52_25, t52_26, le16 (show j < 2147483648 by omega), lt0 (show j < 2147483648 by omega), show ¬ 16 ≤ j by omega, h1, h3, va_rf_s, h5, i_inT hj (by decide), nI_c (show j < 2147483648 by omega), tV, hv]
  · simp [t52_0, t52_1, t52_4, t52_5, t52_7, t52_10, t52_11, t52_14, t52_15, t52_16, t52_18, t52_21, t52_22, t52_25, t52_26, le16 (show j < 2147483648 by omega), lt0 (show j < 2147483648 by omega), show ¬ 16 ≤ j by omega, h1, h3, va_rf_s, h5, i_inT hj (by decide), nI_c (show j < 2147483648 by omega), tV, hv]
/-- whether a file is another one or lies in it, so many levels up -/
def lies (D : Nat → Int32) : Nat → Int32 → Int32 → Bool
  | 0, _, _ => false
  | n + 1, a, d => if isF a = true then (if a = d then true else lies D n (D a.toNatClampNeg) d) else false
theorem c_lies {M : SM} {t : Nat} (h : TreeAt M t) (f d : Int32) : cl 53 [.ref t, .int f, .int d] M = some (some (.int (if lies (tD M t) 16 f d = true then 1 else 0)), M) := by
  show rn 53 0 [some (.ref t), some (.int f), some (.int d), none, none] [] M = _
  obtain ⟨h1, h2, h3, h4, h5⟩ := h
  have lp : ∀ (m lv : Nat) (a : Int32), m + lv = 16 → rn 53 5 [some (.ref t), some (.int f), some (.int d), some (.int a), some (.int (nI lv))] [] M = some (some (.int (if lies (tD M t) m a d = true then 1 else 0)), M) := by
    intro m
    induction m with
    | zero =>
      intro lv a hm
      obtain rfl : lv = 16 := by omega
      rw [t53_5]
      simp [t53_0, t53_1, t53_2, t53_3, t53_7, t53_9, t53_12, t53_13, t53_16, t53_19, t53_20, t53_21, t53_24, t53_25, t53_26, t53_27, t53_30, t53_31, t53_32, t53_33, t53_36, t53_39, t53_40, le16 (show 16 < 2147483648 by omega), lies]
    | succ m ih =>
      intro lv a hm
      rw [t53_5]
      cases hf : isF a with
      | false => simp [t53_0, t53_1, t53_2, t53_3, t53_7, t53_9, t53_12, t53_13, t53_16, t53_19, t53_20, t53_21, t53_24, t53_25, t53_26, t53_27, t53_30, t53_31, t53_32, t53_33, t53_36, t53_39, t53_40, le16 (show lv < 2147483648 by omega), show ¬ 16 ≤ lv by omega, c_isFile, isF_no hf, cbn_i, lies, hf]
      | true =>
        obtain ⟨j, hj, rfl⟩ := isF_of hf
        have e := ih (lv + 1) (mI M (t + 1) j) (by omega)
        by_cases hd : nI j = d
        · subst hd
          simp [t53_0, t53_1, t53_2, t53_3, t53_7, t53_9, t53_12, t53_13, t53_16, t53_19, t53_20, t53_21, t53_24, t53_25, t53_26, t53_27, t53_30, t53_31, t53_32, t53_33, t53_36, t53_39, t53_40, le16 (show lv < 2147483648 by omega), show ¬ 16 ≤ lv by omega, c_isFile, isF_ok hj, cbn_i, lies, hf]
        · simp [t53_0, t53_1, t53_2, t53_3, t53_7, t53_9, t53_12, t53_13, t53_16, t53_19, t53_20, t53_21, t53_24, t53_25, t53_26, t53_27, t53_30, t53_31, t53_32, t53_33, t53_36, t53_39, t53_40, le16 (show lv < 2147483648 by omega), show ¬ 16 ≤ lv by omega, c_isFile, isF_ok hj, cbn_i, lies, hf, hd, h1, h2, va_rf_s, h4, i_inT hj (by decide), nI_c (show j < 2147483648 by omega), n1]
          exact e
  simp only [t53_0, t53_1, t53_2, t53_3, t53_7, t53_9, t53_12, t53_13, t53_16, t53_19, t53_20, t53_21, t53_24, t53_25, t53_26, t53_27, t53_30, t53_31, t53_32, t53_33, t53_36, t53_39, t53_40]
  exact lp 16 0 f (by decide)
/-- the set of those below n for which p holds, as an int -/
def m32 (p : Nat → Bool) : Nat → Int32
  | 0 => 0
  | n + 1 => if p n = true then m32 p n ||| (1 <<< (nI n &&& 31)) else m32 p n
theorem c_filesIn {M : SM} {t : Nat} (h : TreeAt M t) (d : Int32) : cl 54 [.ref t, .int d] M = some (some (.int (m32 (fun f => decide (tD M t f = d)) 16)), M) := by
  show rn 54 0 [some (.ref t), some (.int d), none, none] [] M = _
  obtain ⟨h1, h2, h3, h4, h5⟩ := h
  have lp : ∀ k, k ≤ 16 → rn 54 4 [some (.ref t), some (.int d), some (.int (m32 (fun f => decide (tD M t f = d)) k)), some (.int (nI k))] [] M = some (some (.int (m32 (fun f => decide (tD M t f = d)) 16)), M) := by
    refine loopB ?_ ?_
    · rw [t54_4]
      simp [t54_0, t54_1, t54_2, t54_3, t54_5, t54_7, t54_10, t54_11, t54_14, t54_15, t54_16, t54_17, t54_20, t54_21, t54_22, t54_23, t54_24, t54_25, t54_26, t54_29, t54_32, t54_33, le16 (show 16 < 2147483648 by omega)]
    · intro k hk ih
      rw [t54_4]
      by_cases hd : mI M (t + 1) k = d
      · simp [t54_0, t54_1, t54_2, t54_3, t54_5, t54_7, t54_10, t54_11, t54_14, t54_15, t54_16, t54_17, t54_20, t54_21, t54_22, t54_23, t54_24, t54_25, t54_26, t54_29, t54_32, t54_33, le16 (show k < 2147483648 by omega), show ¬ 16 ≤ k by omega, h1, h2, va_rf_s, h4, i_inT hk (by decide), nI_c (show k < 2147483648 by omega), n1, hd]
        simpa [m32, tD, hd] using ih
      · simp [t54_0, t54_1, t54_2, t54_3, t54_5, t54_7, t54_10, t54_11, t54_14, t54_15, t54_16, t54_17, t54_20, t54_21, t54_22, t54_23, t54_24, t54_25, t54_26, t54_29, t54_32, t54_33, le16 (show k < 2147483648 by omega), show ¬ 16 ≤ k by omega, h1, h2, va_rf_s, h4, i_inT hk (by decide), nI_c (show k < 2147483648 by omega), n1, hd]
        simpa [m32, tD, hd] using ih
  simp only [t54_0, t54_1, t54_2, t54_3, t54_5, t54_7, t54_10, t54_11, t54_14, t54_15, t54_16, t54_17, t54_20, t54_21, t54_22, t54_23, t54_24, t54_25, t54_26, t54_29, t54_32, t54_33]
  exact lp 0 (by decide)
theorem c_tSize {M : SM} {t : Nat} (h : TreeAt M t) : cl 85 [.ref t] M = some (some (.int (nI (cnt (fun f => !decide (tV M t f = -6)) 16))), M) := by
  show rn 85 0 [some (.ref t), none, none] [] M = _
  have lp : ∀ k, k ≤ 16 → rn 85 4 [some (.ref t), some (.int (nI (cnt (fun f => !decide (tV M t f = -6)) k))), some (.int (nI k))] [] M = some (some (.int (nI (cnt (fun f => !decide (tV M t f = -6)) 16))), M) := by
    refine loopB ?_ ?_
    · rw [t85_4]
      simp [t85_0, t85_1, t85_2, t85_3, t85_5, t85_7, t85_10, t85_11, t85_12, t85_15, t85_18, t85_21, t85_24, t85_27, t85_28, le16 (show 16 < 2147483648 by omega)]
    · intro k hk ih
      rw [t85_4]
      have h1 := h.1
      by_cases hd : tV M t k = -6
      · simp [t85_0, t85_1, t85_2, t85_3, t85_5, t85_7, t85_10, t85_11, t85_12, t85_15, t85_18, t85_21, t85_24, t85_27, t85_28, le16 (show k < 2147483648 by omega), show ¬ 16 ≤ k by omega, h1, c_has h hk, cbn_i, n1, hd]
        simpa [cnt, hd] using ih
      · simp [t85_0, t85_1, t85_2, t85_3, t85_5, t85_7, t85_10, t85_11, t85_12, t85_15, t85_18, t85_21, t85_24, t85_27, t85_28, le16 (show k < 2147483648 by omega), show ¬ 16 ≤ k by omega, h1, c_has h hk, cbn_i, n1, hd]
        simpa [cnt, hd] using ih
  simp only [t85_0, t85_1, t85_2, t85_3, t85_5, t85_7, t85_10, t85_11, t85_12, t85_15, t85_18, t85_21, t85_24, t85_27, t85_28]
  exact lp 0 (by decide)
/-- how many directories above -/
def upN (D : Nat → Int32) : Nat → Int32 → Nat
  | 0, _ => 0
  | n + 1, a => if isF a = true then upN D n (D a.toNatClampNeg) + 1 else 0
theorem c_above {M : SM} {t f : Nat} (h : TreeAt M t) (hf : f < 16) : cl 79 [.ref t, .int (nI f)] M = some (some (.int (if tV M t f = -6 then -6 else nI (upN (tD M t) 16 (tD M t f)))), M) := by
  show rn 79 0 [some (.ref t), some (.int (nI f)), none, none] [] M = _
  have hh := h
  obtain ⟨h1, h2, h3, h4, h5⟩ := h
  have lp : ∀ (m lv : Nat) (a : Int32), m + lv = 16 → rn 79 20 [some (.ref t), some (.int (nI f)), some (.int (nI lv)), some (.int a)] [] M = some (some (.int (nI (lv + upN (tD M t) m a))), M) := by
    intro m
    induction m with
    | zero =>
      intro lv a hm
      obtain rfl : lv = 16 := by omega
      rw [t79_20]
      simp [t79_0, t79_1, t79_2, t79_5, t79_8, t79_10, t79_11, t79_12, t79_13, t79_14, t79_17, t79_18, t79_19, t79_21, t79_23, t79_26, t79_27, t79_30, t79_33, t79_36, t79_37, t79_40, t79_41, t79_42, t79_43, t79_46, t79_47, le16 (show 16 < 2147483648 by omega), upN]
    | succ m ih =>
      intro lv a hm
      rw [t79_20]
      cases hf2 : isF a with
      | false => simp [t79_0, t79_1, t79_2, t79_5, t79_8, t79_10, t79_11, t79_12, t79_13, t79_14, t79_17, t79_18, t79_19, t79_21, t79_23, t79_26, t79_27, t79_30, t79_33, t79_36, t79_37, t79_40, t79_41, t79_42, t79_43, t79_46, t79_47, le16 (show lv < 2147483648 by omega), show ¬ 16 ≤ lv by omega, c_isFile, isF_no hf2, cbn_i, upN, hf2]
      | true =>
        obtain ⟨j, hj, rfl⟩ := isF_of hf2
        have e := ih (lv + 1) (mI M (t + 1) j) (by omega)
        simp [t79_0, t79_1, t79_2, t79_5, t79_8, t79_10, t79_11, t79_12, t79_13, t79_14, t79_17, t79_18, t79_19, t79_21, t79_23, t79_26, t79_27, t79_30, t79_33, t79_36, t79_37, t79_40, t79_41, t79_42, t79_43, t79_46, t79_47, le16 (show lv < 2147483648 by omega), show ¬ 16 ≤ lv by omega, c_isFile, isF_ok hj, cbn_i, upN, hf2, h1, h2, va_rf_s, h4, i_inT hj (by decide), nI_c (show j < 2147483648 by omega), n1]
        rw [e, show lv + 1 + upN (tD M t) m (mI M (t + 1) j) = lv + (upN (tD M t) m (tD M t j) + 1) by unfold tD; omega]
  by_cases hv : tV M t f = -6
  · simp [t79_0, t79_1, t79_2, t79_5, t79_8, t79_10, t79_11, t79_12, t79_13, t79_14, t79_17, t79_18, t79_19, t79_21, t79_23, t79_26, t79_27, t79_30, t79_33, t79_36, t79_37, t79_40, t79_41, t79_42, t79_43, t79_46, t79_47, h1, c_has hh hf, cbn_i, hv]
  · simp [t79_0, t79_1, t79_2, t79_5, t79_8, t79_10, t79_11, t79_12, t79_13, t79_14, t79_17, t79_18, t79_19, t79_21, t79_23, t79_26, t79_27, t79_30, t79_33, t79_36, t79_37, t79_40, t79_41, t79_42, t79_43, t79_46, t79_47, h1, h2, va_rf_s, h4, c_has hh hf, cbn_i, hv, i_inT hf (by decide), nI_c (show f < 2147483648 by omega)]
    have e := lp 16 0 (mI M (t + 1) f) (by decide)
    rw [Nat.zero_add] at e
    exact e
theorem c_below {M : SM} {t : Nat} (h : TreeAt M t) (d : Int32) : cl 80 [.ref t, .int d] M = some (some (.int (nI (cnt (fun f => !decide (nI f = d) && lies (tD M t) 16 (nI f) d) 16))), M) := by
  show rn 80 0 [some (.ref t), some (.int d), none, none] [] M = _
  generalize hp : (fun f => !decide (nI f = d) && lies (tD M t) 16 (nI f) d) = p
  have hpk : ∀ k, p k = (!decide (nI k = d) && lies (tD M t) 16 (nI k) d) := fun k => by rw [← hp]
  generalize hR : cnt p 16 = R
  have lp : ∀ k, k ≤ 16 → rn 80 4 [some (.ref t), some (.int d), some (.int (nI (cnt p k))), some (.int (nI k))] [] M = some (some (.int (nI R)), M) := by
    refine loopB ?_ ?_
    · rw [t80_4]
      simp [t80_0, t80_1, t80_2, t80_3, t80_5, t80_7, t80_10, t80_11, t80_12, t80_15, t80_16, t80_17, t80_18, t80_21, t80_24, t80_27, t80_30, t80_33, t80_34, le16 (show 16 < 2147483648 by omega), hR]
    · intro k hk ih
      rw [t80_4]
      have h1 := h.1
      have hpk := hpk k
      by_cases hd : nI k = d
      · subst hd
        simp at hpk
        simp [t80_0, t80_1, t80_2, t80_3, t80_5, t80_7, t80_10, t80_11, t80_12, t80_15, t80_16, t80_17, t80_18, t80_21, t80_24, t80_27, t80_30, t80_33, t80_34, le16 (show k < 2147483648 by omega), show ¬ 16 ≤ k by omega, n1]
        simpa [cnt, hpk] using ih
      · cases hl : lies (tD M t) 16 (nI k) d <;> simp [hd, hl] at hpk <;> simp [t80_0, t80_1, t80_2, t80_3, t80_5, t80_7, t80_10, t80_11, t80_12, t80_15, t80_16, t80_17, t80_18, t80_21, t80_24, t80_27, t80_30, t80_33, t80_34, le16 (show k < 2147483648 by omega), show ¬ 16 ≤ k by omega, h1, c_lies h, cbn_i, n1, hd, hl] <;> simpa [cnt, hpk] using ih
  simp only [t80_0, t80_1, t80_2, t80_3, t80_5, t80_7, t80_10, t80_11, t80_12, t80_15, t80_16, t80_17, t80_18, t80_21, t80_24, t80_27, t80_30, t80_33, t80_34]
  exact lp 0 (by decide)
theorem c_other {M : SM} {t u : Nat} (h : TreeAt M t) (g : TreeAt M u) : cl 82 [.ref t, .ref u] M = some (some (.int (m32 (fun f => decide (¬ tD M t f = tD M u f ∨ ¬ tV M t f = tV M u f)) 16)), M) := by
  show rn 82 0 [some (.ref t), some (.ref u), none, none] [] M = _
  obtain ⟨h1, h2, h3, h4, h5⟩ := h
  obtain ⟨g1, g2, g3, g4, g5⟩ := g
  generalize hp : (fun f => decide (¬ tD M t f = tD M u f ∨ ¬ tV M t f = tV M u f)) = p
  have hpk : ∀ k, p k = decide (¬ tD M t k = tD M u k ∨ ¬ tV M t k = tV M u k) := fun k => by rw [← hp]
  generalize hR : m32 p 16 = R
  have lp : ∀ k, k ≤ 16 → rn 82 4 [some (.ref t), some (.ref u), some (.int (m32 p k)), some (.int (nI k))] [] M = some (some (.int R), M) := by
    refine loopB ?_ ?_
    · rw [t82_4]
      simp [t82_0, t82_1, t82_2, t82_3, t82_5, t82_7, t82_10, t82_11, t82_14, t82_15, t82_16, t82_17, t82_20, t82_21, t82_22, t82_25, t82_26, t82_29, t82_30, t82_31, t82_32, t82_35, t82_36, t82_37, t82_40, t82_41, t82_42, t82_43, t82_44, t82_45, t82_46, t82_49, t82_52, t82_53, le16 (show 16 < 2147483648 by omega), hR]
    · intro k hk ih
      rw [t82_4]
      have hpk := hpk k
      unfold tD tV at hpk
      by_cases hd : mI M (t + 1) k = mI M (u + 1) k
      · by_cases hv : mI M (t + 2) k = mI M (u + 2) k
        · simp [hd, hv] at hpk
          simp [t82_0, t82_1, t82_2, t82_3, t82_5, t82_7, t82_10, t82_11, t82_14, t82_15, t82_16, t82_17, t82_20, t82_21, t82_22, t82_25, t82_26, t82_29, t82_30, t82_31, t82_32, t82_35, t82_36, t82_37, t82_40, t82_41, t82_42, t82_43, t82_44, t82_45, t82_46, t82_49, t82_52, t82_53, le16 (show k < 2147483648 by omega), show ¬ 16 ≤ k by omega, h1, h2, h3, h4, h5, g1, g2, g3, g4, g5, va_rf_s, i_inT hk (by decide), nI_c (show k < 2147483648 by omega), n1, hd, hv]
          simpa [m32, hpk] using ih
        · simp [hd, hv] at hpk
          simp [t82_0, t82_1, t82_2, t82_3, t82_5, t82_7, t82_10, t82_11, t82_14, t82_15, t82_16, t82_17, t82_20, t82_21, t82_22, t82_25, t82_26, t82_29, t82_30, t82_31, t82_32, t82_35, t82_36, t82_37, t82_40, t82_41, t82_42, t82_43, t82_44, t82_45, t82_46, t82_49, t82_52, t82_53, le16 (show k < 2147483648 by omega), show ¬ 16 ≤ k by omega, h1, h2, h3, h4, h5, g1, g2, g3, g4, g5, va_rf_s, i_inT hk (by decide), nI_c (show k < 2147483648 by omega), n1, hd, hv]
          simpa [m32, hpk] using ih
      · simp [hd] at hpk
        simp [t82_0, t82_1, t82_2, t82_3, t82_5, t82_7, t82_10, t82_11, t82_14, t82_15, t82_16, t82_17, t82_20, t82_21, t82_22, t82_25, t82_26, t82_29, t82_30, t82_31, t82_32, t82_35, t82_36, t82_37, t82_40, t82_41, t82_42, t82_43, t82_44, t82_45, t82_46, t82_49, t82_52, t82_53, le16 (show k < 2147483648 by omega), show ¬ 16 ≤ k by omega, h1, h2, h3, h4, h5, g1, g2, g3, g4, g5, va_rf_s, i_inT hk (by decide), nI_c (show k < 2147483648 by omega), n1, hd]
        simpa [m32, hpk] using ih
  simp only [t82_0, t82_1, t82_2, t82_3, t82_5, t82_7, t82_10, t82_11, t82_14, t82_15, t82_16, t82_17, t82_20, t82_21, t82_22, t82_25, t82_26, t82_29, t82_30, t82_31, t82_32, t82_35, t82_36, t82_37, t82_40, t82_41, t82_42, t82_43, t82_44, t82_45, t82_46, t82_49, t82_52, t82_53]
  exact lp 0 (by decide)
/-- why an entry is refused -/
def rfs (D V : Nat → Int32) (kd f : Nat) (a : Int32) : Int32 :=
  if kd = 0 ∧ ¬ V f = -6 then 1
  else if ¬ kd = 0 ∧ V f = -6 then 2
  else if (kd = 0 ∨ kd = 2) ∧ V a.toNatClampNeg = -6 then 3
  else if kd = 2 ∧ lies D 16 a (nI f) = true then 4
  else if kd = 3 ∧ ¬ m32 (fun g => decide (D g = nI f)) 16 = 0 then 5 else 0
/-- an entry's own numbers -/
def okE (kd f : Nat) (a : Int32) : Prop := kd < 4 ∧ f < 16 ∧ 0 < f ∧ ((kd = 0 ∨ kd = 2) → isF a = true) ∧ (kd = 1 → ¬ a = -6)
theorem c_refusal {M : SM} {t kd f : Nat} {a : Int32} (h : TreeAt M t) (he : okE kd f a) : cl 51 [.ref t, .int (nI kd), .int (nI f), .int a] M = some (some (.int (rfs (tD M t) (tV M t) kd f a)), M) := by
  show rn 51 0 [some (.ref t), some (.int (nI kd)), some (.int (nI f)), some (.int a)] [] M = _
  obtain ⟨hk, hf, -, ha, -⟩ := he
  have h1 := h.1
  have hdir : ∀ {j : Nat}, j < 16 → cl 52 [.ref t, .int (nI j)] M = some (some (.int (if tV M t j = -6 then 0 else 1)), M) := fun hj => c_has h hj
  match kd, hk with
  | 0, _ =>
    obtain ⟨j, hj, rfl⟩ := isF_of (ha (Or.inl rfl))
    by_cases hv : tV M t f = -6 <;> by_cases hd : tV M t j = -6 <;> simp [t51_0, t51_1, t51_4, t51_5, t51_6, t51_9, t51_12, t51_13, t51_14, t51_15, t51_18, t51_19, t51_20, t51_23, t51_26, t51_27, t51_28, t51_29, t51_32, t51_35, t51_36, t51_37, t51_40, t51_43, t51_44, t51_45, t51_46, t51_47, t51_50, t51_51, t51_52, t51_53, t51_56, t51_59, t51_60, t51_61, t51_62, t51_63, t51_66, t51_67, t51_68, t51_71, t51_74, t51_75, t51_76, t51_77, nI_0, h1, hdir hf, hdir hj, cbn_i, c_hasDir, hv, hd, rfs, nI_c (show j < 2147483648 by omega)]
  | 1, _ =>
    have e : nI 1 = 1 := rfl
    by_cases hv : tV M t f = -6 <;> simp [t51_0, t51_1, t51_4, t51_5, t51_6, t51_9, t51_12, t51_13, t51_14, t51_15, t51_18, t51_19, t51_20, t51_23, t51_26, t51_27, t51_28, t51_29, t51_32, t51_35, t51_36, t51_37, t51_40, t51_43, t51_44, t51_45, t51_46, t51_47, t51_50, t51_51, t51_52, t51_53, t51_56, t51_59, t51_60, t51_61, t51_62, t51_63, t51_66, t51_67, t51_68, t51_71, t51_74, t51_75, t51_76, t51_77, e, h1, hdir hf, cbn_i, c_hasDir, hv, rfs]
  | 2, _ =>
    have e : nI 2 = 2 := rfl
    obtain ⟨j, hj, rfl⟩ := isF_of (ha (Or.inr rfl))
    by_cases hv : tV M t f = -6 <;> by_cases hd : tV M t j = -6 <;> cases hl : lies (tD M t) 16 (nI j) (nI f) <;> simp [t51_0, t51_1, t51_4, t51_5, t51_6, t51_9, t51_12, t51_13, t51_14, t51_15, t51_18, t51_19, t51_20, t51_23, t51_26, t51_27, t51_28, t51_29, t51_32, t51_35, t51_36, t51_37, t51_40, t51_43, t51_44, t51_45, t51_46, t51_47, t51_50, t51_51, t51_52, t51_53, t51_56, t51_59, t51_60, t51_61, t51_62, t51_63, t51_66, t51_67, t51_68, t51_71, t51_74, t51_75, t51_76, t51_77, e, h1, hdir hf, hdir hj, c_lies h, cbn_i, c_hasDir, hv, hd, rfs, nI_c (show j < 2147483648 by omega), hl]
  | 3, _ =>
    have e : nI 3 = 3 := rfl
    by_cases hv : tV M t f = -6 <;> by_cases hm : m32 (fun g => decide (tD M t g = nI f)) 16 = 0 <;> simp [t51_0, t51_1, t51_4, t51_5, t51_6, t51_9, t51_12, t51_13, t51_14, t51_15, t51_18, t51_19, t51_20, t51_23, t51_26, t51_27, t51_28, t51_29, t51_32, t51_35, t51_36, t51_37, t51_40, t51_43, t51_44, t51_45, t51_46, t51_47, t51_50, t51_51, t51_52, t51_53, t51_56, t51_59, t51_60, t51_61, t51_62, t51_63, t51_66, t51_67, t51_68, t51_71, t51_74, t51_75, t51_76, t51_77, e, h1, hdir hf, c_filesIn h, cbn_i, c_hasDir, hv, rfs, hm]
/-- the rows that an entry leaves, done -/
def pD (D : Nat → Int32) (kd f : Nat) (a : Int32) : Nat → Int32 := if kd = 0 ∨ kd = 2 then va_up D f a else if kd = 3 then va_up D f (-6) else D
def pV (V : Nat → Int32) (kd f : Nat) (a : Int32) : Nat → Int32 := if kd = 0 then va_up V f 0 else if kd = 1 then va_up V f a else if kd = 3 then va_up V f (-6) else V
def tSet (M : SM) (t : Nat) (D V : Nat → Int32) : SM := sI (sI M (t + 1) D) (t + 2) V
theorem tSet_D (M : SM) (t : Nat) (D : Nat → Int32) : tSet M t D (tV M t) = sI M (t + 1) D := by
  unfold tSet tV
  have e : mI M (t + 2) = mI (sI M (t + 1) D) (t + 2) := by rw [mI_sI, if_neg (by omega)]
  rw [e, sI_self]
theorem tSet_V (M : SM) (t : Nat) (V : Nat → Int32) : tSet M t (tD M t) V = sI M (t + 2) V := by
  unfold tSet tD
  rw [sI_self]
theorem c_carry {M : SM} {t kd f : Nat} {a : Int32} (h : TreeAt M t) (he : okE kd f a) : cl 55 [.ref t, .int (nI kd), .int (nI f), .int a] M = some (none, tSet M t (pD (tD M t) kd f a) (pV (tV M t) kd f a)) := by
  show rn 55 0 [some (.ref t), some (.int (nI kd)), some (.int (nI f)), some (.int a)] [] M = _
  obtain ⟨hk, hf, -, ha, -⟩ := he
  obtain ⟨h1, h2, h3, h4, h5⟩ := h
  match kd, hk with
  | 0, _ => simp [t55_0, t55_1, t55_4, t55_7, t55_8, t55_11, t55_12, t55_13, t55_14, t55_15, t55_18, t55_19, t55_22, t55_23, t55_24, t55_25, t55_26, t55_27, t55_30, t55_31, t55_34, t55_35, t55_36, t55_37, t55_38, t55_39, t55_42, t55_43, t55_46, t55_47, t55_49, t55_50, t55_51, t55_54, t55_55, t55_57, t55_58, nI_0, h1, h2, h3, h4, h5, cbn_i, c_hasDir, va_rf_s, mK_sI, mP_sI, i_inT hf (by decide), nI_c (show f < 2147483648 by omega), mI_sI, tSet, pD, pV, tD, tV]
  | 1, _ =>
    have e : nI 1 = 1 := rfl
    simp [t55_0, t55_1, t55_4, t55_7, t55_8, t55_11, t55_12, t55_13, t55_14, t55_15, t55_18, t55_19, t55_22, t55_23, t55_24, t55_25, t55_26, t55_27, t55_30, t55_31, t55_34, t55_35, t55_36, t55_37, t55_38, t55_39, t55_42, t55_43, t55_46, t55_47, t55_49, t55_50, t55_51, t55_54, t55_55, t55_57, t55_58, e, h1, h2, h3, h4, h5, cbn_i, c_hasDir, va_rf_s, mK_sI, mP_sI, i_inT hf (by decide), nI_c (show f < 2147483648 by omega), mI_sI, pD, pV]
    exact (tSet_V _ _ _).symm
  | 2, _ =>
    have e : nI 2 = 2 := rfl
    simp [t55_0, t55_1, t55_4, t55_7, t55_8, t55_11, t55_12, t55_13, t55_14, t55_15, t55_18, t55_19, t55_22, t55_23, t55_24, t55_25, t55_26, t55_27, t55_30, t55_31, t55_34, t55_35, t55_36, t55_37, t55_38, t55_39, t55_42, t55_43, t55_46, t55_47, t55_49, t55_50, t55_51, t55_54, t55_55, t55_57, t55_58, e, h1, h2, h3, h4, h5, cbn_i, c_hasDir, va_rf_s, mK_sI, mP_sI, i_inT hf (by decide), nI_c (show f < 2147483648 by omega), mI_sI, pD, pV]
    exact (tSet_D _ _ _).symm
  | 3, _ =>
    have e : nI 3 = 3 := rfl
    simp [t55_0, t55_1, t55_4, t55_7, t55_8, t55_11, t55_12, t55_13, t55_14, t55_15, t55_18, t55_19, t55_22, t55_23, t55_24, t55_25, t55_26, t55_27, t55_30, t55_31, t55_34, t55_35, t55_36, t55_37, t55_38, t55_39, t55_42, t55_43, t55_46, t55_47, t55_49, t55_50, t55_51, t55_54, t55_55, t55_57, t55_58, e, h1, h2, h3, h4, h5, cbn_i, c_hasDir, va_rf_s, mK_sI, mP_sI, i_inT hf (by decide), nI_c (show f < 2147483648 by omega), mI_sI, tSet, pD, pV, tD, tV]
theorem c_apply {M : SM} {t kd f : Nat} {a : Int32} (h : TreeAt M t) (he : okE kd f a) : cl 50 [.ref t, .int (nI kd), .int (nI f), .int a] M = some (some (.int (rfs (tD M t) (tV M t) kd f a)), if rfs (tD M t) (tV M t) kd f a = 0 then tSet M t (pD (tD M t) kd f a) (pV (tV M t) kd f a) else M) := by
  show rn 50 0 [some (.ref t), some (.int (nI kd)), some (.int (nI f)), some (.int a), none] [] M = _
  have h1 := h.1
  have hf := he.2.1
  by_cases hr : rfs (tD M t) (tV M t) kd f a = 0 <;> simp [t50_0, t50_1, t50_2, t50_3, t50_4, t50_7, t50_9, t50_11, t50_14, t50_15, t50_18, t50_21, t50_22, t50_23, t50_24, t50_25, t50_28, t50_30, h1, c_refusal h he, cbn_i, cbn_v, hr, c_isFile, isF_ok hf, c_carry h he]
