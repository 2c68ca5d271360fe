/-! as in whole -/
theorem c_keep {M : SM} {H nx k : Nat} (hK : mK M H = (15, 0)) (h1 : mI M H 1 = nI nx) (h2 : mI M H 2 = nI k) (hx : nx < 7) (hk : k ≤ 6) : cl 29 [.ref H] M = some (none, sI M H (va_up (va_up (mI M H) 1 (nI (if nx = 6 then 0 else nx + 1))) 2 (nI (rcT k)))) := by
  show rn 29 0 [some (.ref H)] [] M = _
  have e2 : ∀ v, va_up (mI M H) 1 v 2 = nI k := fun v => (va_up_ne _ _ (by decide)).trans h2
  have l6 : ((6 : Int32) < nI (k + 1)) = (6 < k + 1) := i_lt (a := 6) (by decide) (by omega)
  have z0 : nI 0 = 0 := rfl
  have z6 : nI 6 = 6 := rfl
  have e6 : (nI nx = 6) = (nx = 6) := nI_inj (a := nx) (b := 6) (by omega) (by decide)
  by_cases q : nx = 6 <;> by_cases p : k = 6
  · simp only [t29_0, t29_1, t29_2, t29_5, t29_7, t29_10, t29_11, t29_14, t29_15, t29_18, t29_19, t29_20, t29_23, t29_24, t29_25, t29_28, t29_29, t29_30, t29_32, t29_35, t29_38, hK, h1, e6, q, p, ↓reduceIte, not_true_eq_false, mK_sI, mI_sI, e2, n1, l6, c_min, cbn_i, sI_sI, rcT, z0, show 6 < 6 + 1 by decide] <;> rfl
  · have : ¬ 6 < k + 1 := by omega
    simp only [t29_0, t29_1, t29_2, t29_5, t29_7, t29_10, t29_11, t29_14, t29_15, t29_18, t29_19, t29_20, t29_23, t29_24, t29_25, t29_28, t29_29, t29_30, t29_32, t29_35, t29_38, hK, h1, e6, q, p, ↓reduceIte, not_true_eq_false, mK_sI, mI_sI, e2, n1, l6, c_min, cbn_i, sI_sI, rcT, z0, z6, this]
  · simp only [t29_0, t29_1, t29_2, t29_5, t29_7, t29_10, t29_11, t29_14, t29_15, t29_18, t29_19, t29_20, t29_23, t29_24, t29_25, t29_28, t29_29, t29_30, t29_32, t29_35, t29_38, hK, h1, e6, q, p, ↓reduceIte, not_false_eq_true, mK_sI, mI_sI, e2, n1, l6, c_min, cbn_i, sI_sI, rcT, z0, show 6 < 6 + 1 by decide] <;> rfl
  · have : ¬ 6 < k + 1 := by omega
    simp only [t29_0, t29_1, t29_2, t29_5, t29_7, t29_10, t29_11, t29_14, t29_15, t29_18, t29_19, t29_20, t29_23, t29_24, t29_25, t29_28, t29_29, t29_30, t29_32, t29_35, t29_38, hK, h1, e6, q, p, ↓reduceIte, not_false_eq_true, mK_sI, mI_sI, e2, n1, l6, c_min, cbn_i, sI_sI, rcT, z0, z6, this]
theorem c_rec0 {M : SM} {S : Nat} {a : Int32} (ha : a < 0) : cl 28 [.ref S, .int a] M = some (some (.int a), M) := by
  show rn 28 0 [some (.ref S), some (.int a)] [] M = _
  simp only [t28_0, t28_1, t28_4, t28_5, t28_8, t28_11, t28_12, ha, ↓reduceIte]
theorem c_rec1 {M M3 : SM} {S : Nat} {a : Int32} (ha : ¬ a < 0) (hK : mK M S = (10, 0)) (hP : mP M S 1 = some (S + 14)) (hH : mK M (S + 14) = (15, 0)) (hk : cl 29 [.ref (S + 14)] M = some (none, M3)) : cl 28 [.ref S, .int a] M = some (some (.int a), M3) := by
  show rn 28 0 [some (.ref S), some (.int a)] [] M = _
  simp only [t28_0, t28_1, t28_4, t28_5, t28_8, t28_11, t28_12, ha, ↓reduceIte, hK, hP, va_rf_s, hH, hk, cbn_v]
