/-! as in whole -/
theorem c_rCopy {M : SM} {r q : Nat} (H : RepAt M r) (G : RepAt M q) (hd : r + 6 ≤ q ∨ q + 6 ≤ r) : ∃ M', cl 16 [.ref r, .ref q] M = some (none, M') ∧ Fr M M' r (r + 6) ∧ ∀ w n R, n ≤ 40 → RR M q w n R → RR M' r w n R := by
  show ∃ M', rn 16 0 [some (.ref r), some (.ref q)] [] M = _ ∧ _
  obtain ⟨r1, r2, r3, r4, r5, r6, r7⟩ := H
  obtain ⟨q1, q2, q3, q4, q5, q6, q7⟩ := G
  have e0 : (0 : Int32).toNatClampNeg = 0 := by decide
  have e40 : (40 : Int32).toNatClampNeg = 40 := by decide
  have n0 : ((0 : Int32) < 0) = False := by decide
  have n40 : ((40 : Int32) < 0) = False := by decide
  have t1 : ((2 : Nat) = 1) = False := by decide
  have d0 : ¬ q = r := by omega
  have d10 : ¬ q + 1 = r := by omega
  have d20 : ¬ q + 2 = r := by omega
  have d21 : ¬ q + 2 = r + 1 := by omega
  have a1 : ¬ r + 1 = r := by omega
  have a2 : ¬ r + 2 = r := by omega
  have a4 : ¬ r + 4 = r := by omega
  have a5 : ¬ r + 5 = r := by omega
  have b1 : ¬ r = r + 1 := by omega
  have b2 : ¬ r = r + 2 := by omega
  have b4 : ¬ r = r + 4 := by omega
  have b5 : ¬ r = r + 5 := by omega
  have c12 : ¬ r + 1 = r + 2 := by omega
  have c21 : ¬ r + 2 = r + 1 := by omega
  have c14 : ¬ r + 1 = r + 4 := by omega
  have c15 : ¬ r + 1 = r + 5 := by omega
  have c24 : ¬ r + 2 = r + 4 := by omega
  have c25 : ¬ r + 2 = r + 5 := by omega
  have c41 : ¬ r + 4 = r + 1 := by omega
  have c42 : ¬ r + 4 = r + 2 := by omega
  have c51 : ¬ r + 5 = r + 1 := by omega
  have c52 : ¬ r + 5 = r + 2 := by omega
  have c54 : ¬ r + 5 = r + 4 := by omega
  have c45 : ¬ r + 4 = r + 5 := by omega
  have d40 : ¬ q + 4 = r := by omega
  have d41 : ¬ q + 4 = r + 1 := by omega
  have d42 : ¬ q + 4 = r + 2 := by omega
  have d50 : ¬ q + 5 = r := by omega
  have d51 : ¬ q + 5 = r + 1 := by omega
  have d52 : ¬ q + 5 = r + 2 := by omega
  have x01 : ((0 : Nat) = 1) = False := by decide
  have x23 : ((2 : Nat) = 3) = False := by decide
  obtain ⟨N, hN⟩ : ∃ N, N = sI (sI (sI (sJ M r (va_up (va_up (mJ M r) 0 (mJ M q 0)) 1 (mJ M q 1))) r (va_up (va_up (mI M r) 2 (mI M q 2)) 3 (mI M q 3))) (r + 1) (va_cpy (mI M (q + 1)) (mI M (r + 1)) 0 0 40)) (r + 2) (va_cpy (mI M (q + 2)) (mI M (r + 2)) 0 0 40) := ⟨_, rfl⟩
  have hNF : Fr M N r (r + 6) := by
    rw [hN]
    refine ((((Fr.sJ _ ?_ ?_).trans (Fr.sI _ ?_ ?_)).trans (Fr.sI _ ?_ ?_)).trans (Fr.sI _ ?_ ?_)) <;> omega
  have hK : mK N = mK M := hNF.K
  have hP : mP N = mP M := hNF.P
  have hT := c_tCopy (M := N) (t := r + 3) (u := q + 3) (r7.st hNF.1) (q7.st hNF.1) (by omega)
  refine ⟨sI (sI N (r + 3 + 1) (va_cpy (mI N (q + 3 + 1)) (mI N (r + 3 + 1)) 0 0 16)) (r + 3 + 2) (va_cpy (mI N (q + 3 + 2)) (mI N (r + 3 + 2)) 0 0 16), ?_, ?_, ?_⟩
  · simp only [t16_0, t16_1, t16_2, t16_5, t16_8, t16_9, t16_10, t16_13, t16_16, t16_17, t16_18, t16_21, t16_24, t16_25, t16_26, t16_29, t16_32, t16_33, t16_36, t16_37, t16_38, t16_41, t16_42, t16_44, t16_47, t16_48, t16_51, t16_52, t16_53, t16_56, t16_57, t16_59, t16_62, t16_63, t16_66, t16_67, t16_70, t16_73, r1, r2, r3, r4, r5, r6, r7.1, q1, q2, q3, q4, q5, q6, va_rf_s, mK_sI, mP_sI, mK_sJ, mP_sJ, mJ_sJ, mJ_sI, mI_sJ, mI_sI, sI_sI, sJ_sJ, e0, e40, n0, n40, d0, d10, d20, d21, a1, a2, b1, b2, c12, c21, not_false_eq_true, and_self, true_and, false_and, Nat.zero_add, Nat.le_refl, ↓reduceIte]
    rw [← hN, hT]
    simp only [cbn_v, t16_0, t16_1, t16_2, t16_5, t16_8, t16_9, t16_10, t16_13, t16_16, t16_17, t16_18, t16_21, t16_24, t16_25, t16_26, t16_29, t16_32, t16_33, t16_36, t16_37, t16_38, t16_41, t16_42, t16_44, t16_47, t16_48, t16_51, t16_52, t16_53, t16_56, t16_57, t16_59, t16_62, t16_63, t16_66, t16_67, t16_70, t16_73]
  · refine hNF.trans ((Fr.sI _ ?_ ?_).trans (Fr.sI _ ?_ ?_)) <;> omega
  · intro w n R n40 hR
    have x4 := (hNF.2 (q + 4) (by omega)).1
    have x5 := (hNF.2 (q + 5) (by omega)).1
    unfold RR
    simp only [show r + 3 + 1 = r + 4 from rfl, show r + 3 + 2 = r + 5 from rfl, show q + 3 + 1 = q + 4 from rfl, show q + 3 + 2 = q + 5 from rfl, x4, x5, mI_sI, mJ_sI, ↓reduceIte, c14, c15, c24, c25, c45, c54, b4, b5]
    rw [hN]
    simp only [mI_sI, mI_sJ, mJ_sI, mJ_sJ, ↓reduceIte, a1, a2, b1, b2, c12, c21]
    exact RRel_cong hR n40 (by simp [va_up]) (by simp [va_up]) (fun _ q => cpy_lo q) (fun _ q => cpy_lo q) (by simp [va_up]) (by simp [va_up]) (fun _ q => cpy_lo q) (fun _ q => cpy_lo q) (fun _ _ => rfl)
theorem c_stCopy {M : SM} {s t : Nat} (H : StAt M s) (G : StAt M t) (hd : s + 13 ≤ t ∨ t + 13 ≤ s) : ∃ M', cl 14 [.ref s, .ref t] M = some (none, M') ∧ Fr M M' (s + 1) (s + 13) ∧ ∀ w n R, SR M t w n R → SR M' s w n R := by
  obtain ⟨s1, s2, s3, s4, s5⟩ := H
  obtain ⟨t1, t2, t3, t4, t5⟩ := G
  obtain ⟨M1, a1, a2, a3⟩ := c_lCopy s4 t4 (by omega)
  obtain ⟨M2, b1, b2, b3⟩ := c_rCopy (M := M1) (r := s + 7) (q := t + 7) (s5.st a2.1) (t5.st a2.1) (by omega)
  refine ⟨M2, ?_, (a2.mono (by omega) (by omega)).trans (b2.mono (by omega) (by omega)), ?_⟩
  · show rn 14 0 [some (.ref s), some (.ref t)] [] M = _
    simp only [t14_0, t14_1, t14_4, t14_5, t14_8, t14_11, t14_12, t14_15, t14_16, t14_19, t14_22, s1, s2, s4.1, t1, t2, va_rf_s, ↓reduceIte, a1, cbn_v, a2.K, a2.P, s3, t3, s5.1, b1]
  · intro w n R hS
    refine ⟨LR_fr (a3 w n hS.1) b2 (by omega), b3 w n R hS.1.2.1 (RR_fr hS.2 a2 (by omega))⟩
