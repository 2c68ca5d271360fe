/-! as in whole -/
def LogAt (M : SM) (h : Nat) : Prop := mK M h = (12, 0) ∧ mP M h 2 = some (h + 1) ∧ mP M h 3 = some (h + 2) ∧ mP M h 4 = some (h + 3) ∧ mP M h 5 = some (h + 4) ∧ mP M h 6 = some (h + 5) ∧ mK M (h + 1) = (1, 40) ∧ mK M (h + 2) = (1, 40) ∧ mK M (h + 3) = (1, 40) ∧ mK M (h + 4) = (2, 40) ∧ mK M (h + 5) = (2, 40)
/-- the last below n for which p holds, as a set -/
def lastB (p : Nat → Bool) : Nat → Int64
  | 0 => 0
  | n + 1 => if p n = true then bE n else lastB p n
theorem c_latF {M : SM} {h n : Nat} (hL : LogAt M h) (hn : mI M h 0 = nI n) (h40 : n ≤ 40) (f : Int32) : cl 23 [.ref h, .int f] M = some (some (.long (lastB (fun e => decide (mI M (h + 2) e = f)) n)), M) := by
  show rn 23 0 [some (.ref h), some (.int f), none] [] M = _
  obtain ⟨h1, h2, h3, h4, h5, h6, k1, k2, k3, k4, k5⟩ := hL
  have lp : ∀ k, k ≤ 40 → rn 23 7 [some (.ref h), some (.int f), some (.int (nI k - 1))] [] M = some (some (.long (lastB (fun e => decide (mI M (h + 2) e = f)) k)), M) := by
    intro k
    induction k with
    | zero =>
      intro _
      have e : nI 0 - 1 < 0 := by decide
      rw [t23_7]
      simp [t23_0, t23_1, t23_4, t23_5, t23_6, t23_8, t23_11, t23_12, t23_15, t23_16, t23_17, t23_18, t23_21, t23_22, t23_25, t23_26, t23_29, t23_32, t23_33, e, lastB]
    | succ k ih =>
      intro hk
      have ih := ih (by omega)
      rw [Int32.sub_eq_add_neg] at ih
      rw [nI_pred, t23_7]
      by_cases hp : mI M (h + 2) k = f
      · simp [t23_0, t23_1, t23_4, t23_5, t23_6, t23_8, t23_11, t23_12, t23_15, t23_16, t23_17, t23_18, t23_21, t23_22, t23_25, t23_26, t23_29, t23_32, t23_33, lt0 (show k < 2147483648 by omega), h1, h3, va_rf_s, k2, i_inT (show k < 40 by omega) (by decide), nI_c (show k < 2147483648 by omega), hp, c_bit, cbn_i, lastB]
      · simp [t23_0, t23_1, t23_4, t23_5, t23_6, t23_8, t23_11, t23_12, t23_15, t23_16, t23_17, t23_18, t23_21, t23_22, t23_25, t23_26, t23_29, t23_32, t23_33, lt0 (show k < 2147483648 by omega), h1, h3, va_rf_s, k2, i_inT (show k < 40 by omega) (by decide), nI_c (show k < 2147483648 by omega), hp, lastB]
        exact ih
  simp only [t23_0, t23_1, t23_4, t23_5, t23_6, t23_8, t23_11, t23_12, t23_15, t23_16, t23_17, t23_18, t23_21, t23_22, t23_25, t23_26, t23_29, t23_32, t23_33, h1, hn, ↓reduceIte]
  exact lp n h40
theorem c_latD {M : SM} {h n : Nat} (hL : LogAt M h) (hn : mI M h 0 = nI n) (h40 : n ≤ 40) (d : Int32) : cl 25 [.ref h, .int d] M = some (some (.long (lastB (fun e => decide (mI M (h + 1) e = 0 ∨ mI M (h + 1) e = 2) && decide (mI M (h + 3) e = d)) n)), M) := by
  show rn 25 0 [some (.ref h), some (.int d), none] [] M = _
  obtain ⟨h1, h2, h3, h4, h5, h6, k1, k2, k3, k4, k5⟩ := hL
  generalize hp : (fun e => decide (mI M (h + 1) e = 0 ∨ mI M (h + 1) e = 2) && decide (mI M (h + 3) e = d)) = p
  have hpk : ∀ k, p k = (decide (mI M (h + 1) k = 0 ∨ mI M (h + 1) k = 2) && decide (mI M (h + 3) k = d)) := fun k => by rw [← hp]
  have lp : ∀ k, k ≤ 40 → rn 25 7 [some (.ref h), some (.int d), some (.int (nI k - 1))] [] M = some (some (.long (lastB p k)), M) := by
    intro k
    induction k with
    | zero =>
      intro _
      have e : nI 0 - 1 < 0 := by decide
      rw [t25_7]
      simp [t25_0, t25_1, t25_4, t25_5, t25_6, t25_8, t25_11, t25_12, t25_15, t25_16, t25_17, t25_20, t25_23, t25_24, t25_27, t25_28, t25_29, t25_30, t25_33, t25_34, t25_37, t25_38, t25_41, t25_44, t25_45, e, lastB]
    | succ k ih =>
      intro hk
      have ih := ih (by omega)
      rw [Int32.sub_eq_add_neg] at ih
      rw [nI_pred, t25_7]
      have hpk := hpk k
      by_cases hd : mI M (h + 1) k = 0 ∨ mI M (h + 1) k = 2
      · by_cases hp : mI M (h + 3) k = d
        · simp only [hd, hp, decide_true, Bool.and_self] at hpk
          simp [t25_0, t25_1, t25_4, t25_5, t25_6, t25_8, t25_11, t25_12, t25_15, t25_16, t25_17, t25_20, t25_23, t25_24, t25_27, t25_28, t25_29, t25_30, t25_33, t25_34, t25_37, t25_38, t25_41, t25_44, t25_45, lt0 (show k < 2147483648 by omega), h1, h2, h4, va_rf_s, k1, k3, i_inT (show k < 40 by omega) (by decide), nI_c (show k < 2147483648 by omega), hp, hd, c_hasDir, c_bit, cbn_i, lastB, hpk]
        · simp only [hd, hp, decide_true, decide_false, Bool.and_false] at hpk
          simp [t25_0, t25_1, t25_4, t25_5, t25_6, t25_8, t25_11, t25_12, t25_15, t25_16, t25_17, t25_20, t25_23, t25_24, t25_27, t25_28, t25_29, t25_30, t25_33, t25_34, t25_37, t25_38, t25_41, t25_44, t25_45, lt0 (show k < 2147483648 by omega), h1, h2, h4, va_rf_s, k1, k3, i_inT (show k < 40 by omega) (by decide), nI_c (show k < 2147483648 by omega), hp, hd, c_hasDir, cbn_i, lastB, hpk]
          exact ih
      · simp only [hd, decide_false, Bool.false_and] at hpk
        simp [t25_0, t25_1, t25_4, t25_5, t25_6, t25_8, t25_11, t25_12, t25_15, t25_16, t25_17, t25_20, t25_23, t25_24, t25_27, t25_28, t25_29, t25_30, t25_33, t25_34, t25_37, t25_38, t25_41, t25_44, t25_45, lt0 (show k < 2147483648 by omega), h1, h2, h4, va_rf_s, k1, k3, i_inT (show k < 40 by omega) (by decide), nI_c (show k < 2147483648 by omega), hd, c_hasDir, cbn_i, lastB, hpk]
        exact ih
  simp only [t25_0, t25_1, t25_4, t25_5, t25_6, t25_8, t25_11, t25_12, t25_15, t25_16, t25_17, t25_20, t25_23, t25_24, t25_27, t25_28, t25_29, t25_30, t25_33, t25_34, t25_37, t25_38, t25_41, t25_44, t25_45, h1, hn, ↓reduceIte]
  exact lp n h40
/-- what a new entry depends on -/
def fNd (K F A : Nat → Int32) (n : Nat) (kd f a : Int32) : Int64 :=
  let x := lastB (fun e => decide (F e = f)) n
  let y := if (kd = 0 ∨ kd = 2) ∧ ¬ a = 0 then x ||| lastB (fun e => decide (F e = a)) n else x
  if kd = 3 then y ||| lastB (fun e => decide (K e = 0 ∨ K e = 2) && decide (A e = f)) n else y
theorem c_firstNeeds {M : SM} {h n : Nat} (hL : LogAt M h) (hn : mI M h 0 = nI n) (h40 : n ≤ 40) (kd f a : Int32) : cl 22 [.ref h, .int kd, .int f, .int a] M = some (some (.long (fNd (mI M (h + 1)) (mI M (h + 2)) (mI M (h + 3)) n kd f a)), M) := by
  show rn 22 0 [some (.ref h), some (.int kd), some (.int f), some (.int a), none, none] [] M = _
  have h1 := hL.1
  by_cases hd : kd = 0 ∨ kd = 2 <;> by_cases ha : a = 0 <;> by_cases h3 : kd = 3 <;> simp only [t22_0, t22_1, t22_2, t22_5, t22_7, t22_8, t22_11, t22_14, t22_15, t22_18, t22_20, t22_21, t22_22, t22_25, t22_26, t22_28, t22_29, t22_30, t22_33, t22_35, t22_36, t22_37, t22_40, t22_41, t22_43, t22_45, h1, c_latF hL hn h40, c_latD hL hn h40, cbn_i, c_hasDir, hd, ha, h3, ↓reduceIte, fNd, true_and, false_and, not_true_eq_false, not_false_eq_true] <;> simp
/-- what an entry leans on, out of what those before it lean on -/
def orL (x : Int64) (g : Nat → Int64) : Nat → Int64
  | 0 => x
  | j + 1 => if bt x j = true then orL x g j ||| g j else orL x g j
/-- so many entries, from one on, are found again -/
def leanT (nd g : Nat → Int64) (a : Nat) : Nat → (Nat → Int64)
  | 0 => g
  | m + 1 => va_up (leanT nd g a m) (a + m) (orL (nd (a + m)) (leanT nd g a m) (a + m))
theorem c_lean {M : SM} {h n a : Nat} (hL : LogAt M h) (hn : mI M h 0 = nI n) (h40 : n ≤ 40) (ha : a ≤ n) : cl 26 [.ref h, .int (nI a)] M = some (none, sJ M (h + 5) (leanT (mJ M (h + 4)) (mJ M (h + 5)) a (n - a))) := by
  show rn 26 0 [some (.ref h), some (.int (nI a)), none, none, none, none] [] M = _
  obtain ⟨h1, h2, h3, h4, h5, h6, k1, k2, k3, k4, k5⟩ := hL
  have lp2 : ∀ (k : Nat), k < 40 → ∀ (M : SM), mK M h = (12, 0) → mP M h 5 = some (h + 4) → mP M h 6 = some (h + 5) → mK M (h + 4) = (2, 40) → mK M (h + 5) = (2, 40) → ∀ j, j ≤ k → rn 26 20 [some (.ref h), some (.int (nI a)), some (.int (nI k)), some (.long (orL (mJ M (h + 4) k) (mJ M (h + 5)) j)), none, some (.int (nI j))] [] M = rn 26 2 [some (.ref h), some (.int (nI a)), some (.int (nI (k + 1))), some (.long (orL (mJ M (h + 4) k) (mJ M (h + 5)) k)), none, some (.int (nI k))] [] (sJ M (h + 5) (va_up (mJ M (h + 5)) k (orL (mJ M (h + 4) k) (mJ M (h + 5)) k))) := by
    intro k hk M g1 g2 g3 g4 g5
    refine loopB ?_ ?_
    · rw [t26_20]
      simp [t26_0, t26_1, t26_3, t26_4, t26_7, t26_10, t26_11, t26_14, t26_15, t26_16, t26_17, t26_18, t26_22, t26_23, t26_26, t26_27, t26_30, t26_31, t26_32, t26_34, t26_37, t26_40, t26_41, t26_42, t26_45, t26_47, t26_48, t26_49, t26_50, t26_53, t26_56, t26_57, t26_60, t26_61, t26_62, t26_63, t26_66, t26_69, i_le (show k < 2147483648 by omega) (show k < 2147483648 by omega), g1, g3, g5, va_rf_s, i_inT hk (by decide), nI_c (show k < 2147483648 by omega), n1]
    · intro j hj ih
      rw [t26_20]
      have hle : ¬ k ≤ j := by omega
      by_cases hb : bt (mJ M (h + 4) k) j = true
      · simp [t26_0, t26_1, t26_3, t26_4, t26_7, t26_10, t26_11, t26_14, t26_15, t26_16, t26_17, t26_18, t26_22, t26_23, t26_26, t26_27, t26_30, t26_31, t26_32, t26_34, t26_37, t26_40, t26_41, t26_42, t26_45, t26_47, t26_48, t26_49, t26_50, t26_53, t26_56, t26_57, t26_60, t26_61, t26_62, t26_63, t26_66, t26_69, i_le (show k < 2147483648 by omega) (show j < 2147483648 by omega), hle, g1, g2, g3, g4, g5, va_rf_s, i_inT hk (by decide), i_inT (show j < 40 by omega) (by decide), nI_c (show k < 2147483648 by omega), nI_c (show j < 2147483648 by omega), c_holds _ (show j < 64 by omega), cbn_i, hb, n1]
        simpa [orL, hb] using ih
      · simp [t26_0, t26_1, t26_3, t26_4, t26_7, t26_10, t26_11, t26_14, t26_15, t26_16, t26_17, t26_18, t26_22, t26_23, t26_26, t26_27, t26_30, t26_31, t26_32, t26_34, t26_37, t26_40, t26_41, t26_42, t26_45, t26_47, t26_48, t26_49, t26_50, t26_53, t26_56, t26_57, t26_60, t26_61, t26_62, t26_63, t26_66, t26_69, i_le (show k < 2147483648 by omega) (show j < 2147483648 by omega), hle, g1, g2, g3, g4, g5, va_rf_s, i_inT hk (by decide), i_inT (show j < 40 by omega) (by decide), nI_c (show k < 2147483648 by omega), nI_c (show j < 2147483648 by omega), c_holds _ (show j < 64 by omega), cbn_i, hb, n1]
        simpa [orL, hb] using ih
  have lp : ∀ m, m ≤ n - a → ∀ a3 a4 a5 : Option Value, rn 26 2 [some (.ref h), some (.int (nI a)), some (.int (nI (a + m))), a3, a4, a5] [] (sJ M (h + 5) (leanT (mJ M (h + 4)) (mJ M (h + 5)) a m)) = some (none, sJ M (h + 5) (leanT (mJ M (h + 4)) (mJ M (h + 5)) a (n - a))) := by
    refine loopB ?_ ?_
    · intro a3 a4 a5
      rw [t26_2]
      simp only [t26_0, t26_1, t26_3, t26_4, t26_7, t26_10, t26_11, t26_14, t26_15, t26_16, t26_17, t26_18, t26_22, t26_23, t26_26, t26_27, t26_30, t26_31, t26_32, t26_34, t26_37, t26_40, t26_41, t26_42, t26_45, t26_47, t26_48, t26_49, t26_50, t26_53, t26_56, t26_57, t26_60, t26_61, t26_62, t26_63, t26_66, t26_69, mK_sJ, h1, ↓reduceIte, mI_sJ, hn, show a + (n - a) = n by omega, i_le (show n < 2147483648 by omega) (show n < 2147483648 by omega), Nat.le_refl]
    · intro m hm ih a3 a4 a5
      rw [t26_2]
      have hle : ¬ n ≤ a + m := by omega
      have e4 : mJ (sJ M (h + 5) (leanT (mJ M (h + 4)) (mJ M (h + 5)) a m)) (h + 4) = mJ M (h + 4) := by rw [mJ_sJ, if_neg (by omega)]
      have e5 : mJ (sJ M (h + 5) (leanT (mJ M (h + 4)) (mJ M (h + 5)) a m)) (h + 5) = leanT (mJ M (h + 4)) (mJ M (h + 5)) a m := by rw [mJ_sJ, if_pos rfl]
      have l2 := lp2 (a + m) (by omega) (sJ M (h + 5) (leanT (mJ M (h + 4)) (mJ M (h + 5)) a m)) h1 h5 h6 k4 k5 0 (Nat.zero_le _)
      rw [e4, e5, sJ_sJ] at l2
      simp only [t26_0, t26_1, t26_3, t26_4, t26_7, t26_10, t26_11, t26_14, t26_15, t26_16, t26_17, t26_18, t26_22, t26_23, t26_26, t26_27, t26_30, t26_31, t26_32, t26_34, t26_37, t26_40, t26_41, t26_42, t26_45, t26_47, t26_48, t26_49, t26_50, t26_53, t26_56, t26_57, t26_60, t26_61, t26_62, t26_63, t26_66, t26_69, mK_sJ, mP_sJ, h1, ↓reduceIte, mI_sJ, hn, i_le (show n < 2147483648 by omega) (show a + m < 2147483648 by omega), hle, h5, va_rf_s, k4, i_inT (show a + m < 40 by omega) (by decide), and_self, nI_c (show a + m < 2147483648 by omega), e4]
      refine l2.trans ?_
      exact ih _ _ _
  have h0 := lp 0 (Nat.zero_le _) none none none
  simp only [t26_0, t26_1, t26_3, t26_4, t26_7, t26_10, t26_11, t26_14, t26_15, t26_16, t26_17, t26_18, t26_22, t26_23, t26_26, t26_27, t26_30, t26_31, t26_32, t26_34, t26_37, t26_40, t26_41, t26_42, t26_45, t26_47, t26_48, t26_49, t26_50, t26_53, t26_56, t26_57, t26_60, t26_61, t26_62, t26_63, t26_66, t26_69]
  rw [show leanT (mJ M (h + 4)) (mJ M (h + 5)) a 0 = mJ M (h + 5) from rfl, sJ_self] at h0
  exact h0
/-- the orphans, if those were lost -/
def orpB (g : Nat → Int64) (n : Nat) (x : Int64) : Int64 := mk (fun e => !decide (g e &&& x = 0)) n &&& (x ^^^ (-1))
theorem c_orphansOf {M : SM} {h n : Nat} (hL : LogAt M h) (hn : mI M h 0 = nI n) (h40 : n ≤ 40) (x : Int64) : cl 42 [.ref h, .long x] M = some (some (.long (orpB (mJ M (h + 5)) n x)), M) := by
  show rn 42 0 [some (.ref h), some (.long x), none, none, none, none] [] M = _
  obtain ⟨h1, h2, h3, h4, h5, h6, k1, k2, k3, k4, k5⟩ := hL
  generalize hp : (fun e => !decide (mJ M (h + 5) e &&& x = 0)) = p
  have hpk : ∀ k, p k = !decide (mJ M (h + 5) k &&& x = 0) := fun k => by rw [← hp]
  have lp : ∀ k, k ≤ n → rn 42 5 [some (.ref h), some (.long x), none, some (.long (mk p k)), none, some (.int (nI k))] [] M = some (some (.long (mk p n &&& (x ^^^ (-1)))), M) := by
    refine loopB ?_ ?_
    · rw [t42_5]
      simp only [t42_0, t42_1, t42_2, t42_3, t42_7, t42_8, t42_11, t42_14, t42_15, t42_18, t42_20, t42_21, t42_22, t42_23, t42_24, t42_25, t42_28, t42_29, t42_31, t42_34, t42_35, t42_36, t42_39, t42_42, t42_43, t42_44, t42_47, t42_48, t42_49, h1, ↓reduceIte, hn, i_le (show n < 2147483648 by omega) (show n < 2147483648 by omega), Nat.le_refl]
    · intro k hk ih
      rw [t42_5]
      have hle : ¬ n ≤ k := by omega
      have hpk := hpk k
      by_cases hb : mJ M (h + 5) k &&& x = 0
      · simp [hb] at hpk
        simp [t42_0, t42_1, t42_2, t42_3, t42_7, t42_8, t42_11, t42_14, t42_15, t42_18, t42_20, t42_21, t42_22, t42_23, t42_24, t42_25, t42_28, t42_29, t42_31, t42_34, t42_35, t42_36, t42_39, t42_42, t42_43, t42_44, t42_47, t42_48, t42_49, h1, hn, i_le (show n < 2147483648 by omega) (show k < 2147483648 by omega), hle, h6, va_rf_s, k5, i_inT (show k < 40 by omega) (by decide), nI_c (show k < 2147483648 by omega), lg_cmp_eq, hb, n1]
        simpa [mk, hpk] using ih
      · simp [hb] at hpk
        simp [t42_0, t42_1, t42_2, t42_3, t42_7, t42_8, t42_11, t42_14, t42_15, t42_18, t42_20, t42_21, t42_22, t42_23, t42_24, t42_25, t42_28, t42_29, t42_31, t42_34, t42_35, t42_36, t42_39, t42_42, t42_43, t42_44, t42_47, t42_48, t42_49, h1, hn, i_le (show n < 2147483648 by omega) (show k < 2147483648 by omega), hle, h6, va_rf_s, k5, i_inT (show k < 40 by omega) (by decide), nI_c (show k < 2147483648 by omega), lg_cmp_eq, hb, c_bit, cbn_i, n1]
        simpa [mk, hpk] using ih
  have h0 := lp 0 (Nat.zero_le _)
  simp only [t42_0, t42_1, t42_2, t42_3, t42_7, t42_8, t42_11, t42_14, t42_15, t42_18, t42_20, t42_21, t42_22, t42_23, t42_24, t42_25, t42_28, t42_29, t42_31, t42_34, t42_35, t42_36, t42_39, t42_42, t42_43, t42_44, t42_47, t42_48, t42_49, orpB, hp]
  exact h0
theorem c_orphans {M : SM} {h n : Nat} (hL : LogAt M h) (hn : mI M h 0 = nI n) (h40 : n ≤ 40) : cl 41 [.ref h] M = some (some (.long (orpB (mJ M (h + 5)) n (mJ M h 1))), M) := by
  show rn 41 0 [some (.ref h)] [] M = _
  have h1 := hL.1
  simp only [t41_0, t41_1, t41_2, t41_5, t41_8, h1, ↓reduceIte, c_orphansOf hL hn h40, cbn_i]
theorem c_leaningOn {M : SM} {h n e : Nat} (hL : LogAt M h) (hn : mI M h 0 = nI n) (h40 : n ≤ 40) (he : e < n) : cl 71 [.ref h, .int (nI e)] M = some (some (.int (nI (cnt (fun k => decide (e < k) && bt (mJ M (h + 5) k) e) n))), M) := by
  show rn 71 0 [some (.ref h), some (.int (nI e)), none, none] [] M = _
  obtain ⟨h1, h2, h3, h4, h5, h6, k1, k2, k3, k4, k5⟩ := hL
  generalize hp : (fun k => decide (e < k) && bt (mJ M (h + 5) k) e) = p
  have hpk : ∀ k, p k = (decide (e < k) && bt (mJ M (h + 5) k) e) := fun k => by rw [← hp]
  have lp : ∀ k, k ≤ n → e < k → rn 71 6 [some (.ref h), some (.int (nI e)), some (.int (nI (cnt p k))), some (.int (nI k))] [] M = some (some (.int (nI (cnt p n))), M) := by
    refine loopB ?_ ?_
    · intro _
      rw [t71_6]
      simp only [t71_0, t71_1, t71_2, t71_3, t71_4, t71_5, t71_7, t71_8, t71_11, t71_14, t71_15, t71_18, t71_19, t71_20, t71_21, t71_24, t71_27, t71_30, t71_33, t71_36, t71_37, h1, ↓reduceIte, hn, i_le (show n < 2147483648 by omega) (show n < 2147483648 by omega), Nat.le_refl]
    · intro k hk ih hek
      have ih := ih (by omega)
      rw [t71_6]
      have hle : ¬ n ≤ k := by omega
      have hpk := hpk k
      cases hb : bt (mJ M (h + 5) k) e <;> simp [hb, hek] at hpk <;> simp [t71_0, t71_1, t71_2, t71_3, t71_4, t71_5, t71_7, t71_8, t71_11, t71_14, t71_15, t71_18, t71_19, t71_20, t71_21, t71_24, t71_27, t71_30, t71_33, t71_36, t71_37, h1, hn, i_le (show n < 2147483648 by omega) (show k < 2147483648 by omega), hle, h6, va_rf_s, k5, i_inT (show k < 40 by omega) (by decide), nI_c (show k < 2147483648 by omega), c_holds _ (show e < 64 by omega), cbn_i, hb, n1] <;> simpa [cnt, hpk] using ih
  have h0 := lp (e + 1) (by omega) (by omega)
  have hz : cnt p (e + 1) = 0 := by
    have : cnt p (e + 1) = cnt p 0 := cnt_more p (Nat.zero_le _) (fun i _ hi => by rw [hpk, decide_eq_false (by omega), Bool.false_and])
    rw [this]; rfl
  rw [hz] at h0
  simp only [t71_0, t71_1, t71_2, t71_3, t71_4, t71_5, t71_7, t71_8, t71_11, t71_14, t71_15, t71_18, t71_19, t71_20, t71_21, t71_24, t71_27, t71_30, t71_33, t71_36, t71_37, n1]
  exact h0
theorem sm_ext {M M' : SM} (h : M.2.2 = M'.2.2) (hI : ∀ b, mI M b = mI M' b) (hJ : ∀ b, mJ M b = mJ M' b) : M = M' := Prod.ext (funext hI) (Prod.ext (funext hJ) h)
/-- a new entry is written: its kind, file, argument, what it depends on, the size, what it leans on -/
def lgApp (M : SM) (h n : Nat) (kd f a : Int32) : SM :=
  let nd := va_up (mJ M (h + 4)) n (fNd (mI M (h + 1)) (mI M (h + 2)) (mI M (h + 3)) n kd f a)
  sJ (sI (sJ (sI (sI (sI M (h + 1) (va_up (mI M (h + 1)) n kd)) (h + 2) (va_up (mI M (h + 2)) n f)) (h + 3) (va_up (mI M (h + 3)) n a)) (h + 4) nd) h (va_up (mI M h) 0 (nI (n + 1)))) (h + 5) (va_up (mJ M (h + 5)) n (orL (nd n) (mJ M (h + 5)) n))
theorem lastB_cong {p q : Nat → Bool} : ∀ {n : Nat}, (∀ k, k < n → p k = q k) → lastB p n = lastB q n
  | 0, _ => rfl
  | n + 1, h => by unfold lastB; rw [h n (by omega), lastB_cong (fun k hk => h k (by omega))]
theorem fNd_cong {K F A K' F' A' : Nat → Int32} {n : Nat} (hk : ∀ e, e < n → K e = K' e) (hf : ∀ e, e < n → F e = F' e) (ha : ∀ e, e < n → A e = A' e) (kd f a : Int32) : fNd K F A n kd f a = fNd K' F' A' n kd f a := by
  unfold fNd
  rw [lastB_cong (p := fun e => decide (F e = f)) (q := fun e => decide (F' e = f)) (fun k h => by simp only [hf k h]), lastB_cong (p := fun e => decide (F e = a)) (q := fun e => decide (F' e = a)) (fun k h => by simp only [hf k h]), lastB_cong (p := fun e => decide (K e = 0 ∨ K e = 2) && decide (A e = f)) (q := fun e => decide (K' e = 0 ∨ K' e = 2) && decide (A' e = f)) (fun k h => by simp only [hk k h, ha k h])]
theorem c_append {M : SM} {h n : Nat} (hL : LogAt M h) (hn : mI M h 0 = nI n) (h40 : n ≤ 40) (kd f a : Int32) : cl 21 [.ref h, .int kd, .int f, .int a] M = if n = 40 then some (some (.int (-4)), M) else some (some (.int (nI n)), lgApp M h n kd f a) := by
  show rn 21 0 [some (.ref h), some (.int kd), some (.int f), some (.int a), none] [] M = _
  have hL' := hL
  obtain ⟨h1, h2, h3, h4, h5, h6, k1, k2, k3, k4, k5⟩ := hL
  by_cases hz : n = 40
  · subst hz
    have e : ¬ nI 40 < 40 := by decide
    simp [t21_0, t21_1, t21_4, t21_6, t21_9, t21_11, t21_12, t21_13, t21_16, t21_18, t21_19, t21_22, t21_24, t21_25, t21_26, t21_27, t21_30, t21_32, t21_33, t21_34, t21_35, t21_38, t21_40, t21_41, t21_42, t21_43, t21_46, t21_48, t21_49, t21_50, t21_51, t21_52, t21_55, t21_56, t21_57, t21_58, t21_61, t21_62, t21_63, t21_66, t21_67, t21_69, t21_72, t21_74, h1, hn, e]
  · have hlt : nI n < 40 := by
      have : (nI n < nI 40) = (n < 40) := i_lt (by omega) (by omega)
      show nI n < nI 40
      rw [this]; omega
    let M3 := sI (sI (sI M (h + 1) (va_up (mI M (h + 1)) n kd)) (h + 2) (va_up (mI M (h + 2)) n f)) (h + 3) (va_up (mI M (h + 3)) n a)
    have hM3 : sI (sI (sI M (h + 1) (va_up (mI M (h + 1)) n kd)) (h + 2) (va_up (mI M (h + 2)) n f)) (h + 3) (va_up (mI M (h + 3)) n a) = M3 := rfl
    have e30 : mI M3 h = mI M h := by simp [M3, mI_sI]
    have e31 : mI M3 (h + 1) = va_up (mI M (h + 1)) n kd := by simp [M3, mI_sI]
    have e32 : mI M3 (h + 2) = va_up (mI M (h + 2)) n f := by simp [M3, mI_sI]
    have e33 : mI M3 (h + 3) = va_up (mI M (h + 3)) n a := by simp [M3, mI_sI]
    have e3J : mJ M3 = mJ M := rfl
    have hfn := c_firstNeeds (M := M3) (h := h) (n := n) hL' (by rw [e30]; exact hn) h40 kd f a
    rw [e31, e32, e33, fNd_cong (K' := mI M (h + 1)) (F' := mI M (h + 2)) (A' := mI M (h + 3)) (fun e he => va_up_ne _ _ (by omega)) (fun e he => va_up_ne _ _ (by omega)) (fun e he => va_up_ne _ _ (by omega))] at hfn
    generalize hnd : fNd (mI M (h + 1)) (mI M (h + 2)) (mI M (h + 3)) n kd f a = nd at hfn
    let M5 := sI (sJ M3 (h + 4) (va_up (mJ M (h + 4)) n nd)) h (va_up (mI M h) 0 (nI (n + 1)))
    have hM5 : sI (sJ M3 (h + 4) (va_up (mJ M (h + 4)) n nd)) h (va_up (mI M h) 0 (nI (n + 1))) = M5 := rfl
    have e50 : mI M5 h 0 = nI (n + 1) := by simp [M5, mI_sI, va_up]
    have hle := c_lean (M := M5) (h := h) (n := n + 1) (a := n) hL' e50 (by omega) (by omega)
    have e54 : mJ M5 (h + 4) = va_up (mJ M (h + 4)) n nd := by simp [M5, mJ_sI, mJ_sJ]
    have e55 : mJ M5 (h + 5) = mJ M (h + 5) := by simp [M5, mJ_sI, mJ_sJ, e3J]
    rw [show n + 1 - n = 1 by omega, e54, e55] at hle
    have ht : ∀ (g : Nat → Int64), leanT (va_up (mJ M (h + 4)) n nd) g n 1 = va_up g n (orL nd g n) := fun g => by
      show va_up g (n + 0) (orL (va_up (mJ M (h + 4)) n nd (n + 0)) g (n + 0)) = _
      rw [Nat.add_zero, va_up_self]
    rw [ht] at hle
    have hin := i_inT (k := n) (n := 40) (by omega) (by decide)
    have hc := nI_c (k := n) (by omega)
    have hneq : (n = 40) = False := eq_false hz
    simp only [t21_0, t21_1, t21_4, t21_6, t21_9, t21_11, t21_12, t21_13, t21_16, t21_18, t21_19, t21_22, t21_24, t21_25, t21_26, t21_27, t21_30, t21_32, t21_33, t21_34, t21_35, t21_38, t21_40, t21_41, t21_42, t21_43, t21_46, t21_48, t21_49, t21_50, t21_51, t21_52, t21_55, t21_56, t21_57, t21_58, t21_61, t21_62, t21_63, t21_66, t21_67, t21_69, t21_72, t21_74, h1, hn, hlt, ↓reduceIte, h2, h3, h4, h5, h6, va_rf_s, k1, k2, k3, k4, k5, hin, hc, and_self, true_or, mK_sI, mP_sI, mK_sJ, mP_sJ, mI_sI, show ¬ h = h + 1 by omega, show ¬ h = h + 2 by omega, show ¬ h = h + 3 by omega, show ¬ h + 2 = h + 1 by omega, show ¬ h + 3 = h + 1 by omega, show ¬ h + 3 = h + 2 by omega, hM3]
    have hK3 : mK M3 = mK M := rfl
    have hP3 : mP M3 = mP M := rfl
    simp only [hfn, cbn_i, t21_0, t21_1, t21_4, t21_6, t21_9, t21_11, t21_12, t21_13, t21_16, t21_18, t21_19, t21_22, t21_24, t21_25, t21_26, t21_27, t21_30, t21_32, t21_33, t21_34, t21_35, t21_38, t21_40, t21_41, t21_42, t21_43, t21_46, t21_48, t21_49, t21_50, t21_51, t21_52, t21_55, t21_56, t21_57, t21_58, t21_61, t21_62, t21_63, t21_66, t21_67, t21_69, t21_72, t21_74, hK3, hP3, h1, e30, hn, hlt, ↓reduceIte, h2, h3, h4, h5, h6, va_rf_s, k1, k2, k3, k4, k5, hin, hc, and_self, true_or, mK_sI, mP_sI, mK_sJ, mP_sJ, mI_sJ, e3J, n1, hM5]
    have hK5 : mK M5 = mK M := rfl
    simp only [hle, cbn_v, t21_0, t21_1, t21_4, t21_6, t21_9, t21_11, t21_12, t21_13, t21_16, t21_18, t21_19, t21_22, t21_24, t21_25, t21_26, t21_27, t21_30, t21_32, t21_33, t21_34, t21_35, t21_38, t21_40, t21_41, t21_42, t21_43, t21_46, t21_48, t21_49, t21_50, t21_51, t21_52, t21_55, t21_56, t21_57, t21_58, t21_61, t21_62, t21_63, t21_66, t21_67, t21_69, t21_72, t21_74, hK5, h1, ↓reduceIte, hneq]
    show _ = some (some (Value.int (nI n)), lgApp M h n kd f a)
    unfold lgApp
    simp only [hnd, va_up_self]
    rfl
