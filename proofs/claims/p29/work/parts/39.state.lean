/-! as in whole -/
def StAt (M : SM) (s : Nat) : Prop := mK M s = (11, 0) ∧ mP M s 0 = some (s + 1) ∧ mP M s 1 = some (s + 7) ∧ LogAt M (s + 1) ∧ RepAt M (s + 7)
theorem c_writeEntry {M : SM} {s n : Nat} (hS : StAt M s) (hn : mI M (s + 1) 0 = nI n) (h40 : n ≤ 40) (kd f a : Int32) : cl 18 [.ref s, .int kd, .int f, .int a] M =
    if (f < 0 ∨ 16 ≤ f) ∨ f = 0 then some (some (.int (-1)), M) else if (kd = 0 ∨ kd = 2) ∧ (a < 0 ∨ 16 ≤ a) then some (some (.int (-1)), M) else if kd = 1 ∧ (a < 0 ∨ ¬ a < 1000) then some (some (.int (-2)), M) else if n = 40 then some (some (.int (-4)), M) else some (some (.int (nI n)), lgApp M (s + 1) n kd f a) := by
  show rn 18 0 [some (.ref s), some (.int kd), some (.int f), some (.int a)] [] M = _
  obtain ⟨h1, h2, -, hL, -⟩ := hS
  have one0 : ((1 : Int32) = 0) = False := by decide
  have hk := hL.1
  have ha := fun kd f a => c_append hL hn h40 kd f a
  have z01 : ((1 : Int32) = 0 ∨ (1 : Int32) = 2) = False := by decide
  have z12 : ((1 : Int32) = 2) = False := by decide
  have l1 : ∀ x : Int32, (0 ≤ x) = ¬ x < 0 := fun x => propext Int32.not_lt.symm
  by_cases q1 : f < 0 ∨ 16 ≤ f <;> by_cases q2 : f = 0 <;> by_cases q3 : kd = 0 ∨ kd = 2 <;> by_cases q4 : 16 ≤ a <;> by_cases q5 : kd = 1 <;> by_cases q6 : a < 0 <;> by_cases q7 : a < 1000 <;>
    simp only [t18_0, t18_1, t18_4, t18_7, t18_8, t18_11, t18_12, t18_13, t18_14, t18_17, t18_20, t18_21, t18_24, t18_27, t18_28, t18_29, t18_30, t18_31, t18_34, t18_35, t18_38, t18_39, t18_42, t18_45, t18_47, t18_48, t18_49, t18_52, t18_53, t18_54, t18_55, t18_58, c_isFile, c_hasDir, cbn_i, h1, h2, va_rf_s, hk, ha, q1, q2, q3, q4, q5, q6, q7, one0, z12, or_true, true_or, or_false, false_or, or_self, and_true, true_and, and_false, false_and, and_self, ↓reduceIte, ite_self, not_true_eq_false, not_false_eq_true] <;>
    (by_cases q8 : n = 40 <;> try simp only [t18_0, t18_1, t18_4, t18_7, t18_8, t18_11, t18_12, t18_13, t18_14, t18_17, t18_20, t18_21, t18_24, t18_27, t18_28, t18_29, t18_30, t18_31, t18_34, t18_35, t18_38, t18_39, t18_42, t18_45, t18_47, t18_48, t18_49, t18_52, t18_53, t18_54, t18_55, t18_58, q4, q6, q7, q8, one0, z12, or_true, true_or, or_false, false_or, or_self, false_and, ↓reduceIte, ite_self, cbn_i, not_true_eq_false, not_false_eq_true])
