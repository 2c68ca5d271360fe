/-! dependsOn, wants, set, count -/
theorem cases5 (x : Int32) : x = 0 ∨ x = 1 ∨ x = 2 ∨ x = 3 ∨ x = 4 ∨ (¬ x = 0 ∧ ¬ x = 1 ∧ ¬ x = 2 ∧ ¬ x = 3 ∧ ¬ x = 4) := by
  by_cases h0 : x = 0
  · exact Or.inl h0
  by_cases h1 : x = 1
  · exact Or.inr (Or.inl h1)
  by_cases h2 : x = 2
  · exact Or.inr (Or.inr (Or.inl h2))
  by_cases h3 : x = 3
  · exact Or.inr (Or.inr (Or.inr (Or.inl h3)))
  by_cases h4 : x = 4
  · exact Or.inr (Or.inr (Or.inr (Or.inr (Or.inl h4))))
  exact Or.inr (Or.inr (Or.inr (Or.inr (Or.inr (⟨h0, h1, h2, h3, h4⟩)))))
theorem cases6 (x : Int32) : x = 0 ∨ x = 1 ∨ x = 2 ∨ x = 3 ∨ x = 4 ∨ x = 5 ∨ (¬ x = 0 ∧ ¬ x = 1 ∧ ¬ x = 2 ∧ ¬ x = 3 ∧ ¬ x = 4 ∧ ¬ x = 5) := by
  by_cases h0 : x = 0
  · exact Or.inl h0
  by_cases h1 : x = 1
  · exact Or.inr (Or.inl h1)
  by_cases h2 : x = 2
  · exact Or.inr (Or.inr (Or.inl h2))
  by_cases h3 : x = 3
  · exact Or.inr (Or.inr (Or.inr (Or.inl h3)))
  by_cases h4 : x = 4
  · exact Or.inr (Or.inr (Or.inr (Or.inr (Or.inl h4))))
  by_cases h5 : x = 5
  · exact Or.inr (Or.inr (Or.inr (Or.inr (Or.inr (Or.inl h5)))))
  exact Or.inr (Or.inr (Or.inr (Or.inr (Or.inr (Or.inr (⟨h0, h1, h2, h3, h4, h5⟩))))))
theorem cases9 (x : Int32) : x = 0 ∨ x = 1 ∨ x = 2 ∨ x = 3 ∨ x = 4 ∨ x = 5 ∨ x = 6 ∨ x = 7 ∨ x = 8 ∨ (¬ x = 0 ∧ ¬ x = 1 ∧ ¬ x = 2 ∧ ¬ x = 3 ∧ ¬ x = 4 ∧ ¬ x = 5 ∧ ¬ x = 6 ∧ ¬ x = 7 ∧ ¬ x = 8) := by
  by_cases h0 : x = 0
  · exact Or.inl h0
  by_cases h1 : x = 1
  · exact Or.inr (Or.inl h1)
  by_cases h2 : x = 2
  · exact Or.inr (Or.inr (Or.inl h2))
  by_cases h3 : x = 3
  · exact Or.inr (Or.inr (Or.inr (Or.inl h3)))
  by_cases h4 : x = 4
  · exact Or.inr (Or.inr (Or.inr (Or.inr (Or.inl h4))))
  by_cases h5 : x = 5
  · exact Or.inr (Or.inr (Or.inr (Or.inr (Or.inr (Or.inl h5)))))
  by_cases h6 : x = 6
  · exact Or.inr (Or.inr (Or.inr (Or.inr (Or.inr (Or.inr (Or.inl h6))))))
  by_cases h7 : x = 7
  · exact Or.inr (Or.inr (Or.inr (Or.inr (Or.inr (Or.inr (Or.inr (Or.inl h7)))))))
  by_cases h8 : x = 8
  · exact Or.inr (Or.inr (Or.inr (Or.inr (Or.inr (Or.inr (Or.inr (Or.inr (Or.inl h8))))))))
  exact Or.inr (Or.inr (Or.inr (Or.inr (Or.inr (Or.inr (Or.inr (Or.inr (Or.inr (⟨h0, h1, h2, h3, h4, h5, h6, h7, h8⟩)))))))))
theorem cases10 (x : Int32) : x = 0 ∨ x = 1 ∨ x = 2 ∨ x = 3 ∨ x = 4 ∨ x = 5 ∨ x = 6 ∨ x = 7 ∨ x = 8 ∨ x = 9 ∨ (¬ x = 0 ∧ ¬ x = 1 ∧ ¬ x = 2 ∧ ¬ x = 3 ∧ ¬ x = 4 ∧ ¬ x = 5 ∧ ¬ x = 6 ∧ ¬ x = 7 ∧ ¬ x = 8 ∧ ¬ x = 9) := by
  by_cases h0 : x = 0
  · exact Or.inl h0
  by_cases h1 : x = 1
  · exact Or.inr (Or.inl h1)
  by_cases h2 : x = 2
  · exact Or.inr (Or.inr (Or.inl h2))
  by_cases h3 : x = 3
  · exact Or.inr (Or.inr (Or.inr (Or.inl h3)))
  by_cases h4 : x = 4
  · exact Or.inr (Or.inr (Or.inr (Or.inr (Or.inl h4))))
  by_cases h5 : x = 5
  · exact Or.inr (Or.inr (Or.inr (Or.inr (Or.inr (Or.inl h5)))))
  by_cases h6 : x = 6
  · exact Or.inr (Or.inr (Or.inr (Or.inr (Or.inr (Or.inr (Or.inl h6))))))
  by_cases h7 : x = 7
  · exact Or.inr (Or.inr (Or.inr (Or.inr (Or.inr (Or.inr (Or.inr (Or.inl h7)))))))
  by_cases h8 : x = 8
  · exact Or.inr (Or.inr (Or.inr (Or.inr (Or.inr (Or.inr (Or.inr (Or.inr (Or.inl h8))))))))
  by_cases h9 : x = 9
  · exact Or.inr (Or.inr (Or.inr (Or.inr (Or.inr (Or.inr (Or.inr (Or.inr (Or.inr (Or.inl h9)))))))))
  exact Or.inr (Or.inr (Or.inr (Or.inr (Or.inr (Or.inr (Or.inr (Or.inr (Or.inr (Or.inr (⟨h0, h1, h2, h3, h4, h5, h6, h7, h8, h9⟩))))))))))
theorem p_dependsOn {M : SM} {S sb L B : Nat} {xs : Nat → Int32} (h : Rel M S sb L xs B) (x : Int32) : PairJ 61 148 [.int x] M S sb L xs B := by
  obtain ⟨⟨K0, P0, P1, P2, P3, P4, P5, P6⟩, SN, ⟨KH, PH, KR, RG⟩, ⟨KL, SL⟩, ⟨KP, PP, KC⟩, ⟨KD, PD⟩, TQ, TW, MM, ⟨LO1, LO2, LO3, LO4⟩⟩ := id h.1.1
  obtain ⟨hX, n, R, hR, hN⟩ := id h
  have n40 := hN.1.2.1
  obtain ⟨q1, q2, q3, q4, q5⟩ := SN
  have hsz := hN.1.1
  have hw0 : mI M (S + 148 + 1) 0 = nI n := hN.1.2.2.1
  have hLm : LR M (S + 1 + 1) (mI M (S + 148 + 1)) n := hN.1
  have hm0 : inR 0 370 = True := eq_true (by decide)
  have z0 : (0 : Int32).toNatClampNeg = 0 := by decide
  have one0 : ((1 : Int32) = 0) = False := by decide
  have hl := c_lhas q4 x
  rw [hsz] at hl
  have hi := c_mEntry MM hw0 n40 x
  by_cases q : x < 0 ∨ nI n ≤ x
  · refine ⟨-1, M, M, Low.refl _ _, ?_, ?_, h⟩
    · show rn 61 0 [some (.ref S), some (.int x)] [] M = _
      simp only [t61_0, t61_1, t61_4, t61_7, t61_8, t61_11, t61_14, t61_15, t61_18, t61_21, t61_24, t61_25, t61_26, t61_29, t61_32, K0, P0, q1, q2, q4.1, va_rf_s, hl, cbn_i, q, ↓reduceIte]
    · show rn 148 0 [some (.ref (S + 148)), some (.int x)] [] M = _
      simp only [t148_0, t148_1, t148_2, t148_5, t148_8, t148_9, t148_10, t148_13, t148_16, t148_19, MM.1, hi, cbn_i, q, ↓reduceIte]
  · obtain ⟨e, he, rfl⟩ := ent_of (n := n) (by omega) q
    have hd := c_deps MM (e := e) (by omega)
    have hin : inR (nI e) 40 = True := i_inT (by omega) (by decide)
    rw [show dpN (mI M (S + 148 + 1) (2 + 8 * e + 6)) (mI M (S + 148 + 1) (2 + 8 * e + 7)) = mJ M (S + 1 + 1 + 4) e from hN.1.2.2.2.2.2.2.2.1 e he] at hd
    refine ⟨mJ M (S + 1 + 1 + 4) e, M, M, Low.refl _ _, ?_, ?_, h⟩
    · show rn 61 0 [some (.ref S), some (.int (nI e))] [] M = _
      simp only [t61_0, t61_1, t61_4, t61_7, t61_8, t61_11, t61_14, t61_15, t61_18, t61_21, t61_24, t61_25, t61_26, t61_29, t61_32, K0, P0, q1, q2, q4.1, q4.2.2.2.2.1, q4.2.2.2.2.2.2.2.2.2.1, va_rf_s, hl, cbn_i, q, one0, hin, and_self, nI_c (show e < 2147483648 by omega), ↓reduceIte]
    · show rn 148 0 [some (.ref (S + 148)), some (.int (nI e))] [] M = _
      simp only [t148_0, t148_1, t148_2, t148_5, t148_8, t148_9, t148_10, t148_13, t148_16, t148_19, MM.1, hi, hd, cbn_i, q, one0, ↓reduceIte]
theorem p_wants {M : SM} {S sb L B : Nat} {xs : Nat → Int32} (h : Rel M S sb L xs B) (x : Int32) : PairJ 70 158 [.int x] M S sb L xs B := by
  obtain ⟨⟨K0, P0, P1, P2, P3, P4, P5, P6⟩, SN, ⟨KH, PH, KR, RG⟩, ⟨KL, SL⟩, ⟨KP, PP, KC⟩, ⟨KD, PD⟩, TQ, TW, MM, ⟨LO1, LO2, LO3, LO4⟩⟩ := id h.1.1
  obtain ⟨hX, n, R, hR, hN⟩ := id h
  have n40 := hN.1.2.1
  obtain ⟨q1, q2, q3, q4, q5⟩ := SN
  have hsz := hN.1.1
  have hw0 : mI M (S + 148 + 1) 0 = nI n := hN.1.2.2.1
  have hLm : LR M (S + 1 + 1) (mI M (S + 148 + 1)) n := hN.1
  have hm0 : inR 0 370 = True := eq_true (by decide)
  have z0 : (0 : Int32).toNatClampNeg = 0 := by decide
  have one0 : ((1 : Int32) = 0) = False := by decide
  have hl := c_lhas q4 x
  rw [hsz] at hl
  have hi := c_mEntry MM hw0 n40 x
  by_cases q : x < 0 ∨ nI n ≤ x
  · refine ⟨-1, M, M, Low.refl _ _, ?_, ?_, h⟩
    · show rn 70 0 [some (.ref S), some (.int x)] [] M = _
      simp only [t70_0, t70_1, t70_4, t70_7, t70_8, t70_11, t70_14, t70_17, t70_18, t70_19, t70_22, t70_25, t70_28, t70_29, t70_30, t70_31, t70_34, t70_35, t70_36, t70_39, t70_42, t70_45, t70_46, K0, P0, q1, q2, q4.1, va_rf_s, hl, cbn_i, q, ↓reduceIte, not_true_eq_false]
    · show rn 158 0 [some (.ref (S + 148)), some (.int x)] [] M = _
      simp only [t158_0, t158_1, t158_2, t158_5, t158_8, t158_11, t158_12, t158_13, t158_16, t158_17, t158_20, t158_21, t158_22, t158_23, t158_24, t158_25, t158_26, t158_27, t158_30, t158_31, MM.1, hi, cbn_i, q, ↓reduceIte, not_true_eq_false]
  · obtain ⟨e, he, rfl⟩ := ent_of (n := n) (by omega) q
    have hf := c_findLeans MM hw0 n40
    have hin : inR (nI e) 40 = True := i_inT (by omega) (by decide)
    have hg := rG_eq hLm e he
    obtain ⟨N, hN'⟩ : ∃ N, N = flM M (S + 148) n := ⟨_, rfl⟩
    have hf : cl 131 [.ref (S + 148)] M = some (none, N) := by rw [hf, hN']; rfl
    have g7 : mJ N (S + 148 + 7) e = mJ M (S + 1 + 1 + 5) e := by
      rw [hN']; unfold flM; rw [mJ_sJ, if_pos rfl]; exact hg
    have e2 : N.2.2 = M.2.2 := by rw [hN']; rfl
    have h129 := c_lostOnes (C := M) (M := N) (m := S + 148) (h := S + 1 + 1) (n := n) (MM.st e2) (by rw [hN']; exact hLm)
    refine ⟨(mJ M (S + 1 + 1 + 5) e ||| bE e) &&& mJ M (S + 1 + 1) 1, M, N, Low.refl _ _, ?_, ?_, by rw [hN']; exact h.flM n⟩
    · show rn 70 0 [some (.ref S), some (.int (nI e))] [] M = _
      simp only [t70_0, t70_1, t70_4, t70_7, t70_8, t70_11, t70_14, t70_17, t70_18, t70_19, t70_22, t70_25, t70_28, t70_29, t70_30, t70_31, t70_34, t70_35, t70_36, t70_39, t70_42, t70_45, t70_46, K0, P0, q1, q2, q4.1, q4.2.2.2.2.2.1, q4.2.2.2.2.2.2.2.2.2.2, va_rf_s, hl, cbn_i, q, one0, hin, and_self, nI_c (show e < 2147483648 by omega), c_bit, ↓reduceIte, not_false_eq_true]
    · show rn 158 0 [some (.ref (S + 148)), some (.int (nI e))] [] M = _
      simp only [t158_0, t158_1, t158_2, t158_5, t158_8, t158_11, t158_12, t158_13, t158_16, t158_17, t158_20, t158_21, t158_22, t158_23, t158_24, t158_25, t158_26, t158_27, t158_30, t158_31, MM.1, KK e2, PK e2, MM.2.2.2.2.2.2.2.1, MM.2.2.2.2.2.2.2.2.2.2.2.2.2.2.2.2.1, va_rf_s, hi, hf, cbn_i, cbn_v, q, one0, hin, and_self, nI_c (show e < 2147483648 by omega), g7, h129, ↓reduceIte, not_false_eq_true]
theorem p_set {M : SM} {S sb L B : Nat} {xs : Nat → Int32} (h : Rel M S sb L xs B) (x : Int32) : PairJ 67 156 [.int x] M S sb L xs B := by
  obtain ⟨⟨K0, P0, P1, P2, P3, P4, P5, P6⟩, SN, ⟨KH, PH, KR, RG⟩, ⟨KL, SL⟩, ⟨KP, PP, KC⟩, ⟨KD, PD⟩, TQ, TW, MM, ⟨LO1, LO2, LO3, LO4⟩⟩ := id h.1.1
  obtain ⟨hX, n, R, hR, hN⟩ := id h
  have n40 := hN.1.2.1
  obtain ⟨q1, q2, q3, q4, q5⟩ := SN
  have hsz := hN.1.1
  have hw0 : mI M (S + 148 + 1) 0 = nI n := hN.1.2.2.1
  have hLm : LR M (S + 1 + 1) (mI M (S + 148 + 1)) n := hN.1
  have hm0 : inR 0 370 = True := eq_true (by decide)
  have z0 : (0 : Int32).toNatClampNeg = 0 := by decide
  have one0 : ((1 : Int32) = 0) = False := by decide
  have hrp := c_mReplayed MM hw0 n40
  rw [rp_eq hN.2 n40] at hrp
  have hrf := c_mRefused MM hw0 n40
  rw [rf_eq hN.2 n40] at hrf
  have h129 := c_lostOnes MM hLm
  have h130 := c_orphansRel MM hLm (mJ M (S + 1 + 1) 1)
  have hor := c_orphans q4 hsz n40
  rcases cases5 x with hx | hx | hx | hx | hx | hx
  · skip
    have t0 : (x = 0) = True := by rw [hx]; decide
    refine ⟨mJ M (S + 1 + 1) 1, M, M, Low.refl _ _, ?_, ?_, h⟩
    · show rn 67 0 [some (.ref S), some (.int x)] [] M = _
      simp only [t67_0, t67_1, t67_36, t67_37, t67_40, t67_43, t67_46, t67_47, t67_48, t67_51, t67_54, t67_57, t67_58, t67_59, t67_62, t67_65, t67_68, t67_69, t67_70, t67_73, t67_76, t67_79, t67_80, t67_81, t67_84, t67_87, t67_88, t67_91, t67_94, t67_97, t67_98, t67_101, t0, ↓reduceIte, K0, P0, q1, q2, q3, q4.1, q5.1, va_rf_s, cbn_i, cbn_v]
    · show rn 156 0 [some (.ref (S + 148)), some (.int x)] [] M = _
      simp only [t156_0, t156_1, t156_36, t156_37, t156_40, t156_41, t156_42, t156_43, t156_46, t156_49, t156_50, t156_51, t156_54, t156_55, t156_56, t156_59, t156_60, t156_61, t156_64, t156_65, t156_68, t0, ↓reduceIte, MM.1, cbn_i, cbn_v, h129]
  · skip
    have t0 : (x = 0) = False := by rw [hx]; decide
    have t1 : (x = 1) = True := by rw [hx]; decide
    refine ⟨orpB (mJ M (S + 1 + 1 + 5)) n (mJ M (S + 1 + 1) 1), M, flM M (S + 148) n, Low.refl _ _, ?_, ?_, h.flM n⟩
    · show rn 67 0 [some (.ref S), some (.int x)] [] M = _
      simp only [t67_0, t67_1, t67_36, t67_37, t67_40, t67_43, t67_46, t67_47, t67_48, t67_51, t67_54, t67_57, t67_58, t67_59, t67_62, t67_65, t67_68, t67_69, t67_70, t67_73, t67_76, t67_79, t67_80, t67_81, t67_84, t67_87, t67_88, t67_91, t67_94, t67_97, t67_98, t67_101, t0, t1, ↓reduceIte, K0, P0, q1, q2, q3, q4.1, q5.1, va_rf_s, cbn_i, cbn_v, hor]
    · show rn 156 0 [some (.ref (S + 148)), some (.int x)] [] M = _
      simp only [t156_0, t156_1, t156_36, t156_37, t156_40, t156_41, t156_42, t156_43, t156_46, t156_49, t156_50, t156_51, t156_54, t156_55, t156_56, t156_59, t156_60, t156_61, t156_64, t156_65, t156_68, t0, t1, ↓reduceIte, MM.1, cbn_i, cbn_v, h129, h130]
  · skip
    have t0 : (x = 0) = False := by rw [hx]; decide
    have t1 : (x = 1) = False := by rw [hx]; decide
    have t2 : (x = 2) = True := by rw [hx]; decide
    refine ⟨mJ M (S + 1 + 7) 0, M, M, Low.refl _ _, ?_, ?_, h⟩
    · show rn 67 0 [some (.ref S), some (.int x)] [] M = _
      simp only [t67_0, t67_1, t67_36, t67_37, t67_40, t67_43, t67_46, t67_47, t67_48, t67_51, t67_54, t67_57, t67_58, t67_59, t67_62, t67_65, t67_68, t67_69, t67_70, t67_73, t67_76, t67_79, t67_80, t67_81, t67_84, t67_87, t67_88, t67_91, t67_94, t67_97, t67_98, t67_101, t0, t1, t2, ↓reduceIte, K0, P0, q1, q2, q3, q4.1, q5.1, va_rf_s, cbn_i, cbn_v]
    · show rn 156 0 [some (.ref (S + 148)), some (.int x)] [] M = _
      simp only [t156_0, t156_1, t156_36, t156_37, t156_40, t156_41, t156_42, t156_43, t156_46, t156_49, t156_50, t156_51, t156_54, t156_55, t156_56, t156_59, t156_60, t156_61, t156_64, t156_65, t156_68, t0, t1, t2, ↓reduceIte, MM.1, cbn_i, cbn_v, hrp]
  · skip
    have t0 : (x = 0) = False := by rw [hx]; decide
    have t1 : (x = 1) = False := by rw [hx]; decide
    have t2 : (x = 2) = False := by rw [hx]; decide
    have t3 : (x = 3) = True := by rw [hx]; decide
    refine ⟨mJ M (S + 1 + 7) 1, M, M, Low.refl _ _, ?_, ?_, h⟩
    · show rn 67 0 [some (.ref S), some (.int x)] [] M = _
      simp only [t67_0, t67_1, t67_36, t67_37, t67_40, t67_43, t67_46, t67_47, t67_48, t67_51, t67_54, t67_57, t67_58, t67_59, t67_62, t67_65, t67_68, t67_69, t67_70, t67_73, t67_76, t67_79, t67_80, t67_81, t67_84, t67_87, t67_88, t67_91, t67_94, t67_97, t67_98, t67_101, t0, t1, t2, t3, ↓reduceIte, K0, P0, q1, q2, q3, q4.1, q5.1, va_rf_s, cbn_i, cbn_v]
    · show rn 156 0 [some (.ref (S + 148)), some (.int x)] [] M = _
      simp only [t156_0, t156_1, t156_36, t156_37, t156_40, t156_41, t156_42, t156_43, t156_46, t156_49, t156_50, t156_51, t156_54, t156_55, t156_56, t156_59, t156_60, t156_61, t156_64, t156_65, t156_68, t0, t1, t2, t3, ↓reduceIte, MM.1, cbn_i, cbn_v, hrf]
  · skip
    have t0 : (x = 0) = False := by rw [hx]; decide
    have t1 : (x = 1) = False := by rw [hx]; decide
    have t2 : (x = 2) = False := by rw [hx]; decide
    have t3 : (x = 3) = False := by rw [hx]; decide
    have t4 : (x = 4) = True := by rw [hx]; decide
    have hrd := c_ready q5 q4 hsz n40
    have hry := c_readyOnes MM hw0 n40
    rw [← (show rdyB (mJ M (S + 1 + 1 + 4)) n (mJ M (S + 1 + 1) 1) (mJ M (S + 1 + 7) 0) = rRd (mI M (S + 148 + 1)) n from rd_eq hN.1.2 hN.2)] at hry
    refine ⟨rdyB (mJ M (S + 1 + 1 + 4)) n (mJ M (S + 1 + 1) 1) (mJ M (S + 1 + 7) 0), M, M, Low.refl _ _, ?_, ?_, h⟩
    · show rn 67 0 [some (.ref S), some (.int x)] [] M = _
      simp only [t67_0, t67_1, t67_36, t67_37, t67_40, t67_43, t67_46, t67_47, t67_48, t67_51, t67_54, t67_57, t67_58, t67_59, t67_62, t67_65, t67_68, t67_69, t67_70, t67_73, t67_76, t67_79, t67_80, t67_81, t67_84, t67_87, t67_88, t67_91, t67_94, t67_97, t67_98, t67_101, t0, t1, t2, t3, t4, ↓reduceIte, K0, P0, q1, q2, q3, q4.1, q5.1, va_rf_s, cbn_i, cbn_v, hrd]
    · show rn 156 0 [some (.ref (S + 148)), some (.int x)] [] M = _
      simp only [t156_0, t156_1, t156_36, t156_37, t156_40, t156_41, t156_42, t156_43, t156_46, t156_49, t156_50, t156_51, t156_54, t156_55, t156_56, t156_59, t156_60, t156_61, t156_64, t156_65, t156_68, t0, t1, t2, t3, t4, ↓reduceIte, MM.1, cbn_i, cbn_v, hry]
  · skip
    obtain ⟨t0, t1, t2, t3, t4⟩ := hx
    refine ⟨-2, M, M, Low.refl _ _, ?_, ?_, h⟩
    · show rn 67 0 [some (.ref S), some (.int x)] [] M = _
      simp only [t67_0, t67_1, t67_36, t67_37, t67_40, t67_43, t67_46, t67_47, t67_48, t67_51, t67_54, t67_57, t67_58, t67_59, t67_62, t67_65, t67_68, t67_69, t67_70, t67_73, t67_76, t67_79, t67_80, t67_81, t67_84, t67_87, t67_88, t67_91, t67_94, t67_97, t67_98, t67_101, t0, t1, t2, t3, t4, ↓reduceIte]
    · show rn 156 0 [some (.ref (S + 148)), some (.int x)] [] M = _
      simp only [t156_0, t156_1, t156_36, t156_37, t156_40, t156_41, t156_42, t156_43, t156_46, t156_49, t156_50, t156_51, t156_54, t156_55, t156_56, t156_59, t156_60, t156_61, t156_64, t156_65, t156_68, t0, t1, t2, t3, t4, ↓reduceIte]
theorem p_count {M : SM} {S sb L B : Nat} {xs : Nat → Int32} (h : Rel M S sb L xs B) (hB : B < 2147483648) (x : Int32) : PairI 65 152 [.int x] M S sb L xs B := by
  obtain ⟨⟨K0, P0, P1, P2, P3, P4, P5, P6⟩, SN, ⟨KH, PH, KR, RG⟩, ⟨KL, SL⟩, ⟨KP, PP, KC⟩, ⟨KD, PD⟩, TQ, TW, MM, ⟨LO1, LO2, LO3, LO4⟩⟩ := id h.1.1
  obtain ⟨hX, n, R, hR, hN⟩ := id h
  have n40 := hN.1.2.1
  obtain ⟨q1, q2, q3, q4, q5⟩ := SN
  have hsz := hN.1.1
  have hw0 : mI M (S + 148 + 1) 0 = nI n := hN.1.2.2.1
  have hLm : LR M (S + 1 + 1) (mI M (S + 148 + 1)) n := hN.1
  have hm0 : inR 0 370 = True := eq_true (by decide)
  have z0 : (0 : Int32).toNatClampNeg = 0 := by decide
  have one0 : ((1 : Int32) = 0) = False := by decide
  have hrp := c_mReplayed MM hw0 n40
  rw [rp_eq hN.2 n40] at hrp
  have hrf := c_mRefused MM hw0 n40
  rw [rf_eq hN.2 n40] at hrf
  have h129 := c_lostOnes MM hLm
  have h130 := c_orphansRel MM hLm (mJ M (S + 1 + 1) 1)
  have hor := c_orphans q4 hsz n40
  rcases cases10 x with hx | hx | hx | hx | hx | hx | hx | hx | hx | hx | hx
  · skip
    have t0 : (x = 0) = True := by rw [hx]; decide
    refine ⟨nI n, M, M, Low.refl _ _, ?_, ?_, h⟩
    · show rn 65 0 [some (.ref S), some (.int x)] [] M = _
      simp only [t65_0, t65_1, t65_56, t65_57, t65_60, t65_63, t65_66, t65_67, t65_68, t65_71, t65_74, t65_77, t65_80, t65_81, t65_82, t65_85, t65_88, t65_91, t65_94, t65_95, t65_96, t65_99, t65_102, t65_105, t65_108, t65_109, t65_110, t65_113, t65_116, t65_119, t65_122, t65_123, t65_124, t65_127, t65_130, t65_133, t65_134, t65_135, t65_138, t65_141, t65_144, t65_147, t65_148, t65_149, t65_152, t65_155, t65_158, t65_159, t65_160, t65_163, t65_166, t65_169, t65_170, t65_171, t65_174, t65_177, t65_178, t65_180, t0, ↓reduceIte, K0, P0, q1, q2, q3, q4.1, q5.1, va_rf_s, cbn_i, cbn_v, hsz]
    · show rn 152 0 [some (.ref (S + 148)), some (.int x)] [] M = _
      simp only [t152_0, t152_1, t152_56, t152_57, t152_60, t152_61, t152_62, t152_63, t152_64, t152_67, t152_70, t152_71, t152_72, t152_73, t152_76, t152_79, t152_82, t152_83, t152_84, t152_87, t152_90, t152_91, t152_92, t152_95, t152_98, t152_99, t152_100, t152_103, t152_104, t152_105, t152_106, t152_107, t152_110, t152_111, t152_112, t152_115, t152_116, t152_117, t152_120, t152_121, t152_122, t152_125, t152_126, t152_128, t0, ↓reduceIte, MM.1, cbn_i, cbn_v, MM.2.1, MM.2.2.2.2.2.2.2.2.2.2.1, va_rf_s, true_or, hm0, and_self, z0, hw0]
  · skip
    have t0 : (x = 0) = False := by rw [hx]; decide
    have t1 : (x = 1) = True := by rw [hx]; decide
    have hc := cnt_40 (x := mJ M (S + 1 + 1) 1) n40 (fun k hk => by
      rcases Nat.lt_or_ge k n with z | z
      · exact z
      · have := hN.1.2.2.2.2.2.2.1 k z
        rw [this] at hk; cases hk)
    refine ⟨nI (cnt (bt (mJ M (S + 1 + 1) 1)) 64), M, M, Low.refl _ _, ?_, ?_, h⟩
    · show rn 65 0 [some (.ref S), some (.int x)] [] M = _
      simp only [t65_0, t65_1, t65_56, t65_57, t65_60, t65_63, t65_66, t65_67, t65_68, t65_71, t65_74, t65_77, t65_80, t65_81, t65_82, t65_85, t65_88, t65_91, t65_94, t65_95, t65_96, t65_99, t65_102, t65_105, t65_108, t65_109, t65_110, t65_113, t65_116, t65_119, t65_122, t65_123, t65_124, t65_127, t65_130, t65_133, t65_134, t65_135, t65_138, t65_141, t65_144, t65_147, t65_148, t65_149, t65_152, t65_155, t65_158, t65_159, t65_160, t65_163, t65_166, t65_169, t65_170, t65_171, t65_174, t65_177, t65_178, t65_180, t0, t1, ↓reduceIte, K0, P0, q1, q2, q3, q4.1, q5.1, va_rf_s, cbn_i, cbn_v, c_bitCount]
    · show rn 152 0 [some (.ref (S + 148)), some (.int x)] [] M = _
      simp only [t152_0, t152_1, t152_56, t152_57, t152_60, t152_61, t152_62, t152_63, t152_64, t152_67, t152_70, t152_71, t152_72, t152_73, t152_76, t152_79, t152_82, t152_83, t152_84, t152_87, t152_90, t152_91, t152_92, t152_95, t152_98, t152_99, t152_100, t152_103, t152_104, t152_105, t152_106, t152_107, t152_110, t152_111, t152_112, t152_115, t152_116, t152_117, t152_120, t152_121, t152_122, t152_125, t152_126, t152_128, t0, t1, ↓reduceIte, MM.1, cbn_i, cbn_v, h129, c_bits, hc]
  · skip
    have t0 : (x = 0) = False := by rw [hx]; decide
    have t1 : (x = 1) = False := by rw [hx]; decide
    have t2 : (x = 2) = True := by rw [hx]; decide
    have hc := cnt_40 n40 (fun k => orpB_b (g := mJ M (S + 1 + 1 + 5)) (x := mJ M (S + 1 + 1) 1) n40)
    refine ⟨nI (cnt (bt (orpB (mJ M (S + 1 + 1 + 5)) n (mJ M (S + 1 + 1) 1))) 64), M, flM M (S + 148) n, Low.refl _ _, ?_, ?_, h.flM n⟩
    · show rn 65 0 [some (.ref S), some (.int x)] [] M = _
      simp only [t65_0, t65_1, t65_56, t65_57, t65_60, t65_63, t65_66, t65_67, t65_68, t65_71, t65_74, t65_77, t65_80, t65_81, t65_82, t65_85, t65_88, t65_91, t65_94, t65_95, t65_96, t65_99, t65_102, t65_105, t65_108, t65_109, t65_110, t65_113, t65_116, t65_119, t65_122, t65_123, t65_124, t65_127, t65_130, t65_133, t65_134, t65_135, t65_138, t65_141, t65_144, t65_147, t65_148, t65_149, t65_152, t65_155, t65_158, t65_159, t65_160, t65_163, t65_166, t65_169, t65_170, t65_171, t65_174, t65_177, t65_178, t65_180, t0, t1, t2, ↓reduceIte, K0, P0, q1, q2, q3, q4.1, q5.1, va_rf_s, cbn_i, cbn_v, hor, c_bitCount]
    · show rn 152 0 [some (.ref (S + 148)), some (.int x)] [] M = _
      simp only [t152_0, t152_1, t152_56, t152_57, t152_60, t152_61, t152_62, t152_63, t152_64, t152_67, t152_70, t152_71, t152_72, t152_73, t152_76, t152_79, t152_82, t152_83, t152_84, t152_87, t152_90, t152_91, t152_92, t152_95, t152_98, t152_99, t152_100, t152_103, t152_104, t152_105, t152_106, t152_107, t152_110, t152_111, t152_112, t152_115, t152_116, t152_117, t152_120, t152_121, t152_122, t152_125, t152_126, t152_128, t0, t1, t2, ↓reduceIte, MM.1, cbn_i, cbn_v, h129, h130, c_bits, hc]
  · skip
    have t0 : (x = 0) = False := by rw [hx]; decide
    have t1 : (x = 1) = False := by rw [hx]; decide
    have t2 : (x = 2) = False := by rw [hx]; decide
    have t3 : (x = 3) = True := by rw [hx]; decide
    have hc := cnt_40 n40 (rp_b hN.2)
    refine ⟨nI (cnt (bt (mJ M (S + 1 + 7) 0)) 64), M, M, Low.refl _ _, ?_, ?_, h⟩
    · show rn 65 0 [some (.ref S), some (.int x)] [] M = _
      simp only [t65_0, t65_1, t65_56, t65_57, t65_60, t65_63, t65_66, t65_67, t65_68, t65_71, t65_74, t65_77, t65_80, t65_81, t65_82, t65_85, t65_88, t65_91, t65_94, t65_95, t65_96, t65_99, t65_102, t65_105, t65_108, t65_109, t65_110, t65_113, t65_116, t65_119, t65_122, t65_123, t65_124, t65_127, t65_130, t65_133, t65_134, t65_135, t65_138, t65_141, t65_144, t65_147, t65_148, t65_149, t65_152, t65_155, t65_158, t65_159, t65_160, t65_163, t65_166, t65_169, t65_170, t65_171, t65_174, t65_177, t65_178, t65_180, t0, t1, t2, t3, ↓reduceIte, K0, P0, q1, q2, q3, q4.1, q5.1, va_rf_s, cbn_i, cbn_v, c_bitCount]
    · show rn 152 0 [some (.ref (S + 148)), some (.int x)] [] M = _
      simp only [t152_0, t152_1, t152_56, t152_57, t152_60, t152_61, t152_62, t152_63, t152_64, t152_67, t152_70, t152_71, t152_72, t152_73, t152_76, t152_79, t152_82, t152_83, t152_84, t152_87, t152_90, t152_91, t152_92, t152_95, t152_98, t152_99, t152_100, t152_103, t152_104, t152_105, t152_106, t152_107, t152_110, t152_111, t152_112, t152_115, t152_116, t152_117, t152_120, t152_121, t152_122, t152_125, t152_126, t152_128, t0, t1, t2, t3, ↓reduceIte, MM.1, cbn_i, cbn_v, hrp, c_bits, hc]
  · skip
    have t0 : (x = 0) = False := by rw [hx]; decide
    have t1 : (x = 1) = False := by rw [hx]; decide
    have t2 : (x = 2) = False := by rw [hx]; decide
    have t3 : (x = 3) = False := by rw [hx]; decide
    have t4 : (x = 4) = True := by rw [hx]; decide
    have hc := cnt_40 n40 (rf_b hN.2)
    refine ⟨nI (cnt (bt (mJ M (S + 1 + 7) 1)) 64), M, M, Low.refl _ _, ?_, ?_, h⟩
    · show rn 65 0 [some (.ref S), some (.int x)] [] M = _
      simp only [t65_0, t65_1, t65_56, t65_57, t65_60, t65_63, t65_66, t65_67, t65_68, t65_71, t65_74, t65_77, t65_80, t65_81, t65_82, t65_85, t65_88, t65_91, t65_94, t65_95, t65_96, t65_99, t65_102, t65_105, t65_108, t65_109, t65_110, t65_113, t65_116, t65_119, t65_122, t65_123, t65_124, t65_127, t65_130, t65_133, t65_134, t65_135, t65_138, t65_141, t65_144, t65_147, t65_148, t65_149, t65_152, t65_155, t65_158, t65_159, t65_160, t65_163, t65_166, t65_169, t65_170, t65_171, t65_174, t65_177, t65_178, t65_180, t0, t1, t2, t3, t4, ↓reduceIte, K0, P0, q1, q2, q3, q4.1, q5.1, va_rf_s, cbn_i, cbn_v, c_bitCount]
    · show rn 152 0 [some (.ref (S + 148)), some (.int x)] [] M = _
      simp only [t152_0, t152_1, t152_56, t152_57, t152_60, t152_61, t152_62, t152_63, t152_64, t152_67, t152_70, t152_71, t152_72, t152_73, t152_76, t152_79, t152_82, t152_83, t152_84, t152_87, t152_90, t152_91, t152_92, t152_95, t152_98, t152_99, t152_100, t152_103, t152_104, t152_105, t152_106, t152_107, t152_110, t152_111, t152_112, t152_115, t152_116, t152_117, t152_120, t152_121, t152_122, t152_125, t152_126, t152_128, t0, t1, t2, t3, t4, ↓reduceIte, MM.1, cbn_i, cbn_v, hrf, c_bits, hc]
  · skip
    have t0 : (x = 0) = False := by rw [hx]; decide
    have t1 : (x = 1) = False := by rw [hx]; decide
    have t2 : (x = 2) = False := by rw [hx]; decide
    have t3 : (x = 3) = False := by rw [hx]; decide
    have t4 : (x = 4) = False := by rw [hx]; decide
    have t5 : (x = 5) = True := by rw [hx]; decide
    have hr1 : mI M (S + 148 + 1) 1 = nI R := hN.2.1
    have hr2 : mI M (S + 1 + 7) 2 = nI R := hN.2.2.1
    have i1 : inR 1 370 = True := eq_true (by decide)
    have z1 : (1 : Int32).toNatClampNeg = 1 := by decide
    refine ⟨nI R, M, M, Low.refl _ _, ?_, ?_, h⟩
    · show rn 65 0 [some (.ref S), some (.int x)] [] M = _
      simp only [t65_0, t65_1, t65_56, t65_57, t65_60, t65_63, t65_66, t65_67, t65_68, t65_71, t65_74, t65_77, t65_80, t65_81, t65_82, t65_85, t65_88, t65_91, t65_94, t65_95, t65_96, t65_99, t65_102, t65_105, t65_108, t65_109, t65_110, t65_113, t65_116, t65_119, t65_122, t65_123, t65_124, t65_127, t65_130, t65_133, t65_134, t65_135, t65_138, t65_141, t65_144, t65_147, t65_148, t65_149, t65_152, t65_155, t65_158, t65_159, t65_160, t65_163, t65_166, t65_169, t65_170, t65_171, t65_174, t65_177, t65_178, t65_180, t0, t1, t2, t3, t4, t5, ↓reduceIte, K0, P0, q1, q2, q3, q4.1, q5.1, va_rf_s, cbn_i, cbn_v, hr2]
    · show rn 152 0 [some (.ref (S + 148)), some (.int x)] [] M = _
      simp only [t152_0, t152_1, t152_56, t152_57, t152_60, t152_61, t152_62, t152_63, t152_64, t152_67, t152_70, t152_71, t152_72, t152_73, t152_76, t152_79, t152_82, t152_83, t152_84, t152_87, t152_90, t152_91, t152_92, t152_95, t152_98, t152_99, t152_100, t152_103, t152_104, t152_105, t152_106, t152_107, t152_110, t152_111, t152_112, t152_115, t152_116, t152_117, t152_120, t152_121, t152_122, t152_125, t152_126, t152_128, t0, t1, t2, t3, t4, t5, ↓reduceIte, MM.1, cbn_i, cbn_v, MM.2.1, MM.2.2.2.2.2.2.2.2.2.2.1, va_rf_s, true_or, i1, and_self, z1, hr1]
  · skip
    have t0 : (x = 0) = False := by rw [hx]; decide
    have t1 : (x = 1) = False := by rw [hx]; decide
    have t2 : (x = 2) = False := by rw [hx]; decide
    have t3 : (x = 3) = False := by rw [hx]; decide
    have t4 : (x = 4) = False := by rw [hx]; decide
    have t5 : (x = 5) = False := by rw [hx]; decide
    have t6 : (x = 6) = True := by rw [hx]; decide
    have ht := c_tSize q5.2.2.2.2.2.2
    have hf := c_filesThere (D := mI M (S + 1 + 7 + 4)) (V := mI M (S + 1 + 7 + 5)) MM hN.2.2.2.2.2.2.2.2.2.1
    have hf : cl 154 [.ref (S + 148)] M = some (some (.int (nI (cnt (fun f => !decide (tV M (S + 1 + 7 + 3) f = -6)) 16))), M) := hf
    refine ⟨nI (cnt (fun f => !decide (tV M (S + 1 + 7 + 3) f = -6)) 16), M, M, Low.refl _ _, ?_, ?_, h⟩
    · show rn 65 0 [some (.ref S), some (.int x)] [] M = _
      simp only [t65_0, t65_1, t65_56, t65_57, t65_60, t65_63, t65_66, t65_67, t65_68, t65_71, t65_74, t65_77, t65_80, t65_81, t65_82, t65_85, t65_88, t65_91, t65_94, t65_95, t65_96, t65_99, t65_102, t65_105, t65_108, t65_109, t65_110, t65_113, t65_116, t65_119, t65_122, t65_123, t65_124, t65_127, t65_130, t65_133, t65_134, t65_135, t65_138, t65_141, t65_144, t65_147, t65_148, t65_149, t65_152, t65_155, t65_158, t65_159, t65_160, t65_163, t65_166, t65_169, t65_170, t65_171, t65_174, t65_177, t65_178, t65_180, t0, t1, t2, t3, t4, t5, t6, ↓reduceIte, K0, P0, q1, q2, q3, q4.1, q5.1, va_rf_s, cbn_i, cbn_v, q5.2.2.2.1, q5.2.2.2.2.2.2.1, ht]
    · show rn 152 0 [some (.ref (S + 148)), some (.int x)] [] M = _
      simp only [t152_0, t152_1, t152_56, t152_57, t152_60, t152_61, t152_62, t152_63, t152_64, t152_67, t152_70, t152_71, t152_72, t152_73, t152_76, t152_79, t152_82, t152_83, t152_84, t152_87, t152_90, t152_91, t152_92, t152_95, t152_98, t152_99, t152_100, t152_103, t152_104, t152_105, t152_106, t152_107, t152_110, t152_111, t152_112, t152_115, t152_116, t152_117, t152_120, t152_121, t152_122, t152_125, t152_126, t152_128, t0, t1, t2, t3, t4, t5, t6, ↓reduceIte, MM.1, cbn_i, cbn_v, hf]
  · skip
    have t0 : (x = 0) = False := by rw [hx]; decide
    have t1 : (x = 1) = False := by rw [hx]; decide
    have t2 : (x = 2) = False := by rw [hx]; decide
    have t3 : (x = 3) = False := by rw [hx]; decide
    have t4 : (x = 4) = False := by rw [hx]; decide
    have t5 : (x = 5) = False := by rw [hx]; decide
    have t6 : (x = 6) = False := by rw [hx]; decide
    have t7 : (x = 7) = True := by rw [hx]; decide
    have hwd := c_widest MM hw0 n40 (show mI M (S + 148 + 1) 1 = nI R from hN.2.1) (by omega)
    have hwx : nI (wdN (fun e => mI M (S + 148 + 1) (2 + 8 * e + 4)) n R) = mI M (S + 1 + 7) 3 := by
      rw [hN.2.2.2.2.2.2.2.2.1]
      congr 1
      exact wdN_cong (fun i _ e he => by
        have := (hN.2.2.2.1 e he).1
        exact congrArg (fun z => z = nI i) this)
    rw [hwx] at hwd
    refine ⟨mI M (S + 1 + 7) 3, M, M, Low.refl _ _, ?_, ?_, h⟩
    · show rn 65 0 [some (.ref S), some (.int x)] [] M = _
      simp only [t65_0, t65_1, t65_56, t65_57, t65_60, t65_63, t65_66, t65_67, t65_68, t65_71, t65_74, t65_77, t65_80, t65_81, t65_82, t65_85, t65_88, t65_91, t65_94, t65_95, t65_96, t65_99, t65_102, t65_105, t65_108, t65_109, t65_110, t65_113, t65_116, t65_119, t65_122, t65_123, t65_124, t65_127, t65_130, t65_133, t65_134, t65_135, t65_138, t65_141, t65_144, t65_147, t65_148, t65_149, t65_152, t65_155, t65_158, t65_159, t65_160, t65_163, t65_166, t65_169, t65_170, t65_171, t65_174, t65_177, t65_178, t65_180, t0, t1, t2, t3, t4, t5, t6, t7, ↓reduceIte, K0, P0, q1, q2, q3, q4.1, q5.1, va_rf_s, cbn_i, cbn_v]
    · show rn 152 0 [some (.ref (S + 148)), some (.int x)] [] M = _
      simp only [t152_0, t152_1, t152_56, t152_57, t152_60, t152_61, t152_62, t152_63, t152_64, t152_67, t152_70, t152_71, t152_72, t152_73, t152_76, t152_79, t152_82, t152_83, t152_84, t152_87, t152_90, t152_91, t152_92, t152_95, t152_98, t152_99, t152_100, t152_103, t152_104, t152_105, t152_106, t152_107, t152_110, t152_111, t152_112, t152_115, t152_116, t152_117, t152_120, t152_121, t152_122, t152_125, t152_126, t152_128, t0, t1, t2, t3, t4, t5, t6, t7, ↓reduceIte, MM.1, cbn_i, cbn_v, hwd]
  · skip
    have t0 : (x = 0) = False := by rw [hx]; decide
    have t1 : (x = 1) = False := by rw [hx]; decide
    have t2 : (x = 2) = False := by rw [hx]; decide
    have t3 : (x = 3) = False := by rw [hx]; decide
    have t4 : (x = 4) = False := by rw [hx]; decide
    have t5 : (x = 5) = False := by rw [hx]; decide
    have t6 : (x = 6) = False := by rw [hx]; decide
    have t7 : (x = 7) = False := by rw [hx]; decide
    have t8 : (x = 8) = True := by rw [hx]; decide
    obtain ⟨l, l1, l2, l3, l4⟩ := hX.2.2.2.1
    refine ⟨mI M (S + 109) 1, M, M, Low.refl _ _, ?_, ?_, h⟩
    · show rn 65 0 [some (.ref S), some (.int x)] [] M = _
      simp only [t65_0, t65_1, t65_56, t65_57, t65_60, t65_63, t65_66, t65_67, t65_68, t65_71, t65_74, t65_77, t65_80, t65_81, t65_82, t65_85, t65_88, t65_91, t65_94, t65_95, t65_96, t65_99, t65_102, t65_105, t65_108, t65_109, t65_110, t65_113, t65_116, t65_119, t65_122, t65_123, t65_124, t65_127, t65_130, t65_133, t65_134, t65_135, t65_138, t65_141, t65_144, t65_147, t65_148, t65_149, t65_152, t65_155, t65_158, t65_159, t65_160, t65_163, t65_166, t65_169, t65_170, t65_171, t65_174, t65_177, t65_178, t65_180, t0, t1, t2, t3, t4, t5, t6, t7, t8, ↓reduceIte, K0, P0, q1, q2, q3, q4.1, q5.1, va_rf_s, cbn_i, cbn_v, P3, KD, P4, KP, l2]
    · show rn 152 0 [some (.ref (S + 148)), some (.int x)] [] M = _
      simp only [t152_0, t152_1, t152_56, t152_57, t152_60, t152_61, t152_62, t152_63, t152_64, t152_67, t152_70, t152_71, t152_72, t152_73, t152_76, t152_79, t152_82, t152_83, t152_84, t152_87, t152_90, t152_91, t152_92, t152_95, t152_98, t152_99, t152_100, t152_103, t152_104, t152_105, t152_106, t152_107, t152_110, t152_111, t152_112, t152_115, t152_116, t152_117, t152_120, t152_121, t152_122, t152_125, t152_126, t152_128, t0, t1, t2, t3, t4, t5, t6, t7, t8, ↓reduceIte, MM.1, cbn_i, cbn_v, l3, l2]
  · skip
    have t0 : (x = 0) = False := by rw [hx]; decide
    have t1 : (x = 1) = False := by rw [hx]; decide
    have t2 : (x = 2) = False := by rw [hx]; decide
    have t3 : (x = 3) = False := by rw [hx]; decide
    have t4 : (x = 4) = False := by rw [hx]; decide
    have t5 : (x = 5) = False := by rw [hx]; decide
    have t6 : (x = 6) = False := by rw [hx]; decide
    have t7 : (x = 7) = False := by rw [hx]; decide
    have t8 : (x = 8) = False := by rw [hx]; decide
    have t9 : (x = 9) = True := by rw [hx]; decide
    obtain ⟨nx, k, ⟨y1, y2, y3, y4, y5⟩, y6⟩ := hX.2.1
    refine ⟨mI M (S + 14) 2, M, M, Low.refl _ _, ?_, ?_, h⟩
    · show rn 65 0 [some (.ref S), some (.int x)] [] M = _
      simp only [t65_0, t65_1, t65_56, t65_57, t65_60, t65_63, t65_66, t65_67, t65_68, t65_71, t65_74, t65_77, t65_80, t65_81, t65_82, t65_85, t65_88, t65_91, t65_94, t65_95, t65_96, t65_99, t65_102, t65_105, t65_108, t65_109, t65_110, t65_113, t65_116, t65_119, t65_122, t65_123, t65_124, t65_127, t65_130, t65_133, t65_134, t65_135, t65_138, t65_141, t65_144, t65_147, t65_148, t65_149, t65_152, t65_155, t65_158, t65_159, t65_160, t65_163, t65_166, t65_169, t65_170, t65_171, t65_174, t65_177, t65_178, t65_180, t0, t1, t2, t3, t4, t5, t6, t7, t8, t9, ↓reduceIte, K0, P0, q1, q2, q3, q4.1, q5.1, va_rf_s, cbn_i, cbn_v, P1, KH, y4]
    · show rn 152 0 [some (.ref (S + 148)), some (.int x)] [] M = _
      simp only [t152_0, t152_1, t152_56, t152_57, t152_60, t152_61, t152_62, t152_63, t152_64, t152_67, t152_70, t152_71, t152_72, t152_73, t152_76, t152_79, t152_82, t152_83, t152_84, t152_87, t152_90, t152_91, t152_92, t152_95, t152_98, t152_99, t152_100, t152_103, t152_104, t152_105, t152_106, t152_107, t152_110, t152_111, t152_112, t152_115, t152_116, t152_117, t152_120, t152_121, t152_122, t152_125, t152_126, t152_128, t0, t1, t2, t3, t4, t5, t6, t7, t8, t9, ↓reduceIte, MM.1, cbn_i, cbn_v, y6, y4]
  · skip
    obtain ⟨t0, t1, t2, t3, t4, t5, t6, t7, t8, t9⟩ := hx
    refine ⟨-2, M, M, Low.refl _ _, ?_, ?_, h⟩
    · show rn 65 0 [some (.ref S), some (.int x)] [] M = _
      simp only [t65_0, t65_1, t65_56, t65_57, t65_60, t65_63, t65_66, t65_67, t65_68, t65_71, t65_74, t65_77, t65_80, t65_81, t65_82, t65_85, t65_88, t65_91, t65_94, t65_95, t65_96, t65_99, t65_102, t65_105, t65_108, t65_109, t65_110, t65_113, t65_116, t65_119, t65_122, t65_123, t65_124, t65_127, t65_130, t65_133, t65_134, t65_135, t65_138, t65_141, t65_144, t65_147, t65_148, t65_149, t65_152, t65_155, t65_158, t65_159, t65_160, t65_163, t65_166, t65_169, t65_170, t65_171, t65_174, t65_177, t65_178, t65_180, t0, t1, t2, t3, t4, t5, t6, t7, t8, t9, ↓reduceIte]
    · show rn 152 0 [some (.ref (S + 148)), some (.int x)] [] M = _
      simp only [t152_0, t152_1, t152_56, t152_57, t152_60, t152_61, t152_62, t152_63, t152_64, t152_67, t152_70, t152_71, t152_72, t152_73, t152_76, t152_79, t152_82, t152_83, t152_84, t152_87, t152_90, t152_91, t152_92, t152_95, t152_98, t152_99, t152_100, t152_103, t152_104, t152_105, t152_106, t152_107, t152_110, t152_111, t152_112, t152_115, t152_116, t152_117, t152_120, t152_121, t152_122, t152_125, t152_126, t152_128, t0, t1, t2, t3, t4, t5, t6, t7, t8, t9, ↓reduceIte]
