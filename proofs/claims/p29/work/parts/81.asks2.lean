/-! the class's answers: the worst, unlike -/
/-- the class's loop -/
theorem c_woLoop {M : SM} {S n : Nat} {w : Nat → Int32} (hS : ClsAt M S) (hL : LR M (S + 1 + 1) w n) : ∀ k, k ≤ n → rn 81 21 [some (.ref S), some (.ref (S + 1 + 1)), some (.int (nI k))] [] (tSet M (S + 117) (woT (mI M (S + 1 + 1 + 1)) (mI M (S + 1 + 1 + 2)) (mI M (S + 1 + 1 + 3)) (mJ M (S + 1 + 1) 1) (tD M (S + 117), tV M (S + 117)) k).1 (woT (mI M (S + 1 + 1 + 1)) (mI M (S + 1 + 1 + 2)) (mI M (S + 1 + 1 + 3)) (mJ M (S + 1 + 1) 1) (tD M (S + 117), tV M (S + 117)) k).2) = rn 81 72 [some (.ref S), some (.ref (S + 1 + 1)), some (.int (nI n))] [] (tSet M (S + 117) (woT (mI M (S + 1 + 1 + 1)) (mI M (S + 1 + 1 + 2)) (mI M (S + 1 + 1 + 3)) (mJ M (S + 1 + 1) 1) (tD M (S + 117), tV M (S + 117)) n).1 (woT (mI M (S + 1 + 1 + 1)) (mI M (S + 1 + 1 + 2)) (mI M (S + 1 + 1 + 3)) (mJ M (S + 1 + 1) 1) (tD M (S + 117), tV M (S + 117)) n).2) := by
  obtain ⟨⟨K0, P0, P1, P5, P6⟩, SN, ⟨KH, PH, KR, RG⟩, TQ, TW⟩ := hS
  obtain ⟨q1, q2, q3, q4, q5⟩ := SN
  have hsz := hL.1
  have n40 := hL.2.1
  have hok := hL.2.2.2.1
  have one0 : ((1 : Int32) = 0) = False := by decide
  generalize hwo : woT (mI M (S + 1 + 1 + 1)) (mI M (S + 1 + 1 + 2)) (mI M (S + 1 + 1 + 3)) (mJ M (S + 1 + 1) 1) (tD M (S + 117), tV M (S + 117)) = wo
  have wt := fun k (h : bt (mJ M (S + 1 + 1) 1) k = true) => woT_t (K := mI M (S + 1 + 1 + 1)) (F := mI M (S + 1 + 1 + 2)) (A := mI M (S + 1 + 1 + 3)) (s0 := (tD M (S + 117), tV M (S + 117))) h
  have wf := fun k (h : bt (mJ M (S + 1 + 1) 1) k = false) => woT_f (K := mI M (S + 1 + 1 + 1)) (F := mI M (S + 1 + 1 + 2)) (A := mI M (S + 1 + 1 + 3)) (s0 := (tD M (S + 117), tV M (S + 117))) h
  rw [hwo] at wt wf
  have eI : ∀ D V b, (b < S + 117 ∨ S + 120 ≤ b) → mI (tSet M (S + 117) D V) b = mI M b := fun D V b hb => tSet_I (by omega)
  have eJ : ∀ D V, mJ (tSet M (S + 117) D V) = mJ M := fun _ _ => rfl
  have eK : ∀ D V, mK (tSet M (S + 117) D V) = mK M := fun _ _ => rfl
  have eP : ∀ D V, mP (tSet M (S + 117) D V) = mP M := fun _ _ => rfl
  generalize hXX : rn 81 72 [some (.ref S), some (.ref (S + 1 + 1)), some (.int (nI n))] [] (tSet M (S + 117) (wo n).1 (wo n).2) = X
  refine loopB ?_ ?_
  · rw [t81_21]
    simp only [t81_0, t81_1, t81_4, t81_5, t81_8, t81_11, t81_12, t81_13, t81_16, t81_19, t81_20, t81_22, t81_23, t81_26, t81_29, t81_30, t81_33, t81_34, t81_37, t81_40, t81_41, t81_44, t81_45, t81_48, t81_49, t81_50, t81_51, t81_54, t81_55, t81_56, t81_57, t81_60, t81_61, t81_62, t81_65, t81_66, t81_69, t81_72, t81_73, t81_76, t81_79, t81_80, t81_83, t81_86, eK, eP, q4.1, eI _ _ (S + 1 + 1) (by omega), hsz, leN n (show n < 2147483648 by omega) (show n < 2147483648 by omega), Nat.le_refl, ↓reduceIte] at hXX ⊢
    exact hXX
  · intro k hk ih
    have hle : ¬ n ≤ k := by omega
    have ho := c_holds (mJ M (S + 1 + 1) 1) (show k < 64 by omega) (tSet M (S + 117) (wo k).1 (wo k).2)
    have hin : inR (nI k) 40 = True := i_inT (by omega) (by decide)
    have hck := nI_c (show k < 2147483648 by omega)
    obtain ⟨o1, o2, o3⟩ := hok k hk
    rw [t81_21]
    cases hb : bt (mJ M (S + 1 + 1) 1) k with
    | true =>
      rw [hb] at ho
      rw [wt k hb] at ih
      simp only [t81_0, t81_1, t81_4, t81_5, t81_8, t81_11, t81_12, t81_13, t81_16, t81_19, t81_20, t81_22, t81_23, t81_26, t81_29, t81_30, t81_33, t81_34, t81_37, t81_40, t81_41, t81_44, t81_45, t81_48, t81_49, t81_50, t81_51, t81_54, t81_55, t81_56, t81_57, t81_60, t81_61, t81_62, t81_65, t81_66, t81_69, t81_72, t81_73, t81_76, t81_79, t81_80, t81_83, t81_86, eK, eP, eJ, q4.1, eI _ _ (S + 1 + 1) (by omega), hsz, leN n (show n < 2147483648 by omega) (show k < 2147483648 by omega), hle, ho, cbn_i, one0, ↓reduceIte, not_false_eq_true, n1] at ih ⊢
      exact ih
    | false =>
      rw [hb] at ho
      rw [wf k hb] at ih
      have hA := c_apply (M := tSet M (S + 117) (wo k).1 (wo k).2) (t := S + 117) (kd := (mI M (S + 1 + 1 + 1) k).toNatClampNeg) (f := (mI M (S + 1 + 1 + 2) k).toNatClampNeg) (a := mI M (S + 1 + 1 + 3) k) (TW.st (by rfl)) o1
      rw [← o2, ← o3, tSet_tD, tSet_tV, tSet_2] at hA
      by_cases z : rfs (wo k).1 (wo k).2 (mI M (S + 1 + 1 + 1) k).toNatClampNeg (mI M (S + 1 + 1 + 2) k).toNatClampNeg (mI M (S + 1 + 1 + 3) k) = 0
      · rw [if_pos z] at hA ih
        simp only [t81_0, t81_1, t81_4, t81_5, t81_8, t81_11, t81_12, t81_13, t81_16, t81_19, t81_20, t81_22, t81_23, t81_26, t81_29, t81_30, t81_33, t81_34, t81_37, t81_40, t81_41, t81_44, t81_45, t81_48, t81_49, t81_50, t81_51, t81_54, t81_55, t81_56, t81_57, t81_60, t81_61, t81_62, t81_65, t81_66, t81_69, t81_72, t81_73, t81_76, t81_79, t81_80, t81_83, t81_86, eK, eP, eJ, K0, P6, TW.1, q4.1, q4.2.1, q4.2.2.1, q4.2.2.2.1, q4.2.2.2.2.2.2.1, q4.2.2.2.2.2.2.2.1, q4.2.2.2.2.2.2.2.2.1, va_rf_s, eI _ _ (S + 1 + 1) (by omega), eI _ _ (S + 1 + 1 + 1) (by omega), eI _ _ (S + 1 + 1 + 2) (by omega), eI _ _ (S + 1 + 1 + 3) (by omega), hsz, leN n (show n < 2147483648 by omega) (show k < 2147483648 by omega), hle, ho, hin, hck, true_or, and_self, hA, cbn_i, ↓reduceIte, Bool.false_eq_true, not_true_eq_false, n1] at ih ⊢
        exact ih
      · rw [if_neg z] at hA ih
        simp only [t81_0, t81_1, t81_4, t81_5, t81_8, t81_11, t81_12, t81_13, t81_16, t81_19, t81_20, t81_22, t81_23, t81_26, t81_29, t81_30, t81_33, t81_34, t81_37, t81_40, t81_41, t81_44, t81_45, t81_48, t81_49, t81_50, t81_51, t81_54, t81_55, t81_56, t81_57, t81_60, t81_61, t81_62, t81_65, t81_66, t81_69, t81_72, t81_73, t81_76, t81_79, t81_80, t81_83, t81_86, eK, eP, eJ, K0, P6, TW.1, q4.1, q4.2.1, q4.2.2.1, q4.2.2.2.1, q4.2.2.2.2.2.2.1, q4.2.2.2.2.2.2.2.1, q4.2.2.2.2.2.2.2.2.1, va_rf_s, eI _ _ (S + 1 + 1) (by omega), eI _ _ (S + 1 + 1 + 1) (by omega), eI _ _ (S + 1 + 1 + 2) (by omega), eI _ _ (S + 1 + 1 + 3) (by omega), hsz, leN n (show n < 2147483648 by omega) (show k < 2147483648 by omega), hle, ho, hin, hck, true_or, and_self, hA, cbn_i, ↓reduceIte, Bool.false_eq_true, not_true_eq_false, n1] at ih ⊢
        exact ih
theorem a_worst {M : SM} {S n R : Nat} {w : Nat → Int32} (hC : ClsAt M S) (hN : SR M (S + 1) w n R) {x : Int32} (hx : x = 0 ∨ x = 1) : cl 83 [.ref S, .int x] M = some (some (.int (if x = 0 then (wst (mJ M (S + 1 + 1) 1) (fun k => cnt (bt (orpB (mJ M (S + 1 + 1 + 5)) n (mJ M (S + 1 + 1) 1 ||| bE k))) 64) n).1 else (wst (mJ M (S + 1 + 1) 1) (fun k => cnt (bt (orpB (mJ M (S + 1 + 1 + 5)) n (mJ M (S + 1 + 1) 1 ||| bE k))) 64) n).2)), M) := by
  obtain ⟨⟨K0, P0, P1, P5, P6⟩, ⟨q1, q2, q3, q4, q5⟩, ⟨KH, PH, KR, RG⟩, TQ, TW⟩ := id hC
  have n40 := hN.1.2.1
  have hsz := hN.1.1
  have one0 : ((1 : Int32) = 0) = False := by decide
  have hc64 : ∀ k, cnt (bt (orpB (mJ M (S + 1 + 1 + 5)) n (mJ M (S + 1 + 1) 1 ||| bE k))) 64 ≤ 64 := fun k => cnt_le _ _
  show rn 83 0 [some (.ref S), some (.int x), none, none, none, none] [] M = _
  generalize hcc : (fun k => cnt (bt (orpB (mJ M (S + 1 + 1 + 5)) n (mJ M (S + 1 + 1) 1 ||| bE k))) 64) = c
  have hck : ∀ k, cnt (bt (orpB (mJ M (S + 1 + 1 + 5)) n (mJ M (S + 1 + 1) 1 ||| bE k))) 64 = c k := fun k => by rw [← hcc]
  have hc64' : ∀ k, c k ≤ 64 := fun k => by rw [← hck]; exact hc64 k
  have lp : ∀ k, k ≤ n → ∀ l5, rn 83 21 [some (.ref S), some (.int x), some (.int (wst (mJ M (S + 1 + 1) 1) c k).1), some (.int (wst (mJ M (S + 1 + 1) 1) c k).2), some (.int (nI k)), l5] [] M = some (some (.int (if x = 0 then (wst (mJ M (S + 1 + 1) 1) c n).1 else (wst (mJ M (S + 1 + 1) 1) c n).2)), M) := by
    refine loopB ?_ ?_
    · intro l5
      rw [t83_21]
      rcases hx with hx | hx <;> simp only [t83_0, t83_1, t83_4, t83_5, t83_6, t83_9, t83_11, t83_12, t83_14, t83_15, t83_17, t83_18, t83_19, t83_23, t83_24, t83_27, t83_30, t83_33, t83_36, t83_37, t83_40, t83_43, t83_46, t83_48, t83_51, t83_54, t83_55, t83_58, t83_61, t83_62, t83_65, t83_68, t83_71, t83_73, t83_76, t83_77, t83_80, t83_83, t83_85, t83_87, t83_88, t83_91, t83_93, t83_94, t83_96, t83_97, t83_100, t83_103, t83_104, t83_107, t83_108, t83_111, t83_112, K0, P0, q1, q2, q4.1, va_rf_s, hsz, leN n (show n < 2147483648 by omega) (show n < 2147483648 by omega), Nat.le_refl, hx, one0, ↓reduceIte, not_true_eq_false, not_false_eq_true]
    · intro k hk ih l5
      rw [t83_21]
      have hle : ¬ n ≤ k := by omega
      have ho := c_holds (mJ M (S + 1 + 1) 1) (show k < 64 by omega) M
      have hor := c_orphansOf q4 hsz n40 (mJ M (S + 1 + 1) 1 ||| bE k)
      have hge : ∀ y : Int32, (nI (c k) ≤ y) = ¬ y < nI (c k) := fun y => propext Int32.not_lt.symm
      have hwk : wst (mJ M (S + 1 + 1) 1) c (k + 1) = if bt (mJ M (S + 1 + 1) 1) k = true then wst (mJ M (S + 1 + 1) 1) c k else if (wst (mJ M (S + 1 + 1) 1) c k).2 < nI (c k) then (nI k, nI (c k)) else wst (mJ M (S + 1 + 1) 1) c k := rfl
      cases hb : bt (mJ M (S + 1 + 1) 1) k with
      | true =>
        rw [hb] at ho
        rw [hwk, if_pos hb] at ih
        simp only [t83_0, t83_1, t83_4, t83_5, t83_6, t83_9, t83_11, t83_12, t83_14, t83_15, t83_17, t83_18, t83_19, t83_23, t83_24, t83_27, t83_30, t83_33, t83_36, t83_37, t83_40, t83_43, t83_46, t83_48, t83_51, t83_54, t83_55, t83_58, t83_61, t83_62, t83_65, t83_68, t83_71, t83_73, t83_76, t83_77, t83_80, t83_83, t83_85, t83_87, t83_88, t83_91, t83_93, t83_94, t83_96, t83_97, t83_100, t83_103, t83_104, t83_107, t83_108, t83_111, t83_112, K0, P0, q1, q2, q4.1, va_rf_s, hsz, leN n (show n < 2147483648 by omega) (show k < 2147483648 by omega), hle, ho, cbn_i, one0, ↓reduceIte, not_true_eq_false, not_false_eq_true, n1]
        exact ih _
      | false =>
        rw [hb] at ho
        rw [hwk, if_neg (by rw [hb]; decide)] at ih
        by_cases hq : (wst (mJ M (S + 1 + 1) 1) c k).2 < nI (c k)
        · rw [if_pos hq] at ih
          simp only [t83_0, t83_1, t83_4, t83_5, t83_6, t83_9, t83_11, t83_12, t83_14, t83_15, t83_17, t83_18, t83_19, t83_23, t83_24, t83_27, t83_30, t83_33, t83_36, t83_37, t83_40, t83_43, t83_46, t83_48, t83_51, t83_54, t83_55, t83_58, t83_61, t83_62, t83_65, t83_68, t83_71, t83_73, t83_76, t83_77, t83_80, t83_83, t83_85, t83_87, t83_88, t83_91, t83_93, t83_94, t83_96, t83_97, t83_100, t83_103, t83_104, t83_107, t83_108, t83_111, t83_112, K0, P0, q1, q2, q4.1, va_rf_s, hsz, leN n (show n < 2147483648 by omega) (show k < 2147483648 by omega), hle, ho, hor, c_bit, c_bitCount, hck, hge, hq, cbn_i, one0, ↓reduceIte, not_true_eq_false, not_false_eq_true, Bool.false_eq_true, n1]
          exact ih _
        · rw [if_neg hq] at ih
          simp only [t83_0, t83_1, t83_4, t83_5, t83_6, t83_9, t83_11, t83_12, t83_14, t83_15, t83_17, t83_18, t83_19, t83_23, t83_24, t83_27, t83_30, t83_33, t83_36, t83_37, t83_40, t83_43, t83_46, t83_48, t83_51, t83_54, t83_55, t83_58, t83_61, t83_62, t83_65, t83_68, t83_71, t83_73, t83_76, t83_77, t83_80, t83_83, t83_85, t83_87, t83_88, t83_91, t83_93, t83_94, t83_96, t83_97, t83_100, t83_103, t83_104, t83_107, t83_108, t83_111, t83_112, K0, P0, q1, q2, q4.1, va_rf_s, hsz, leN n (show n < 2147483648 by omega) (show k < 2147483648 by omega), hle, ho, hor, c_bit, c_bitCount, hck, hge, hq, cbn_i, one0, ↓reduceIte, not_true_eq_false, not_false_eq_true, Bool.false_eq_true, n1]
          exact ih _
  have l0 := lp 0 (Nat.zero_le _) none
  rcases hx with hx | hx <;> simp only [t83_0, t83_1, t83_4, t83_5, t83_6, t83_9, t83_11, t83_12, t83_14, t83_15, t83_17, t83_18, t83_19, t83_23, t83_24, t83_27, t83_30, t83_33, t83_36, t83_37, t83_40, t83_43, t83_46, t83_48, t83_51, t83_54, t83_55, t83_58, t83_61, t83_62, t83_65, t83_68, t83_71, t83_73, t83_76, t83_77, t83_80, t83_83, t83_85, t83_87, t83_88, t83_91, t83_93, t83_94, t83_96, t83_97, t83_100, t83_103, t83_104, t83_107, t83_108, t83_111, t83_112, hx, one0, ↓reduceIte] at l0 ⊢ <;> exact l0
theorem a_unlike {M : SM} {S n R : Nat} {w : Nat → Int32} (hC : ClsAt M S) (hN : SR M (S + 1) w n R) : ∃ (j : Nat) (s0 : (Nat → Int32) × (Nat → Int32)) (M3 : SM), j ≤ 40 ∧ (∀ i, i < j → ¬ rdM (itR (rClr M (S + 111)) (S + 111) (S + 1 + 1) n i) (S + 111) (S + 1 + 1) n = 0) ∧ rdM (itR (rClr M (S + 111)) (S + 111) (S + 1 + 1) n j) (S + 111) (S + 1 + 1) n = 0 ∧
    s0 = (fl (mI M (S + 117 + 1)) 16 (-6), va_up (fl (mI M (S + 117 + 2)) 16 (-6)) 0 0) ∧ (∀ f, f < 16 → s0.1 f = -6) ∧ s0.2 0 = 0 ∧ (∀ f, 0 < f → f < 16 → s0.2 f = -6) ∧ Fr M M3 (S + 111) (S + 120) ∧
    cl 81 [.ref S] M = some (some (.int (m32 (fun f => decide (¬ mI (itR (rClr M (S + 111)) (S + 111) (S + 1 + 1) n j) (S + 111 + 4) f = (woT (mI M (S + 1 + 1 + 1)) (mI M (S + 1 + 1 + 2)) (mI M (S + 1 + 1 + 3)) (mJ M (S + 1 + 1) 1) s0 n).1 f ∨ ¬ mI (itR (rClr M (S + 111)) (S + 111) (S + 1 + 1) n j) (S + 111 + 5) f = (woT (mI M (S + 1 + 1 + 1)) (mI M (S + 1 + 1 + 2)) (mI M (S + 1 + 1 + 3)) (mJ M (S + 1 + 1) 1) s0 n).2 f)) 16)), M3) := by
  obtain ⟨⟨K0, P0, P1, P5, P6⟩, SN, ⟨KH, PH, KR, RG⟩, TQ, TW⟩ := id hC
  have n40 := hN.1.2.1
  obtain ⟨q1, q2, q3, q4, q5⟩ := id SN
  have one0 : ((1 : Int32) = 0) = False := by decide
  obtain ⟨j, j1, j0, j2, j3, j4⟩ := c_try hC hN
  obtain ⟨M1, hM1⟩ : ∃ M1, M1 = itR (rClr M (S + 111)) (S + 111) (S + 1 + 1) n j := ⟨_, rfl⟩
  rw [← hM1] at j3 j4
  have hcl := c_tClear (M := M1) (TW.st j4.1)
  obtain ⟨M2, hM2⟩ : ∃ M2, M2 = tClr M1 (S + 117) := ⟨_, rfl⟩
  rw [← hM2] at hcl
  have f2 : Fr M1 M2 (S + 117) (S + 120) := by
    rw [hM2]; exact ⟨rfl, fun b hb => ⟨by unfold tClr; rw [mI_sI, if_neg (by omega), mI_sI, if_neg (by omega)], rfl⟩⟩
  have e2 : M2.2.2 = M.2.2 := f2.1.trans j4.1
  have s2 : ∀ b, (b < S + 111 ∨ S + 120 ≤ b) → Same M M2 b := fun b hb => ⟨((f2.2 b (by omega)).1).trans (j4.2 b (by omega)).1, ((f2.2 b (by omega)).2).trans (j4.2 b (by omega)).2⟩
  have hS2 := hC.st e2
  have hL2 : LR M2 (S + 1 + 1) w n := LR_fr (LR_fr hN.1 j4 (by omega)) f2 (by omega)
  have hD2 : ∀ f, f < 16 → tD M2 (S + 117) f = -6 := fun f hf => by
    rw [hM2]; unfold tClr tD; rw [mI_sI, if_neg (by omega), mI_sI, if_pos rfl]; exact if_pos hf
  have hV0 : tV M2 (S + 117) 0 = 0 := by
    rw [hM2]; unfold tClr tV; rw [mI_sI, if_pos rfl, va_up_self]
  have hVf : ∀ f, 0 < f → f < 16 → tV M2 (S + 117) f = -6 := fun f h0 hf => by
    rw [hM2]; unfold tClr tV; rw [mI_sI, if_pos rfl, va_up_ne _ _ (by omega)]; exact if_pos hf
  have hcw := c_woLoop hS2 hL2 0 (Nat.zero_le _)
  rw [show ∀ K F A lost s0, woT K F A lost s0 0 = s0 from fun _ _ _ _ _ => rfl] at hcw
  dsimp only at hcw
  rw [tSet_self] at hcw
  -- names of the rows
  have rK : mI M2 (S + 1 + 1 + 1) = mI M (S + 1 + 1 + 1) := (s2 _ (by omega)).1
  have rF : mI M2 (S + 1 + 1 + 2) = mI M (S + 1 + 1 + 2) := (s2 _ (by omega)).1
  have rA : mI M2 (S + 1 + 1 + 3) = mI M (S + 1 + 1 + 3) := (s2 _ (by omega)).1
  have rL : mJ M2 (S + 1 + 1) = mJ M (S + 1 + 1) := (s2 _ (by omega)).2
  rw [rK, rF, rA, rL] at hcw
  obtain ⟨s0, hs0⟩ : ∃ s0, s0 = (tD M2 (S + 117), tV M2 (S + 117)) := ⟨_, rfl⟩
  rw [← hs0] at hcw
  obtain ⟨wn, hwn⟩ : ∃ wn, wn = woT (mI M (S + 1 + 1 + 1)) (mI M (S + 1 + 1 + 2)) (mI M (S + 1 + 1 + 3)) (mJ M (S + 1 + 1) 1) s0 n := ⟨_, rfl⟩
  rw [← hwn] at hcw
  obtain ⟨M3, hM3⟩ : ∃ M3, M3 = tSet M2 (S + 117) wn.1 wn.2 := ⟨_, rfl⟩
  rw [← hM3] at hcw
  have f3 : Fr M2 M3 (S + 117) (S + 120) := by rw [hM3]; exact Fr_tSet _ _ _ _
  have e3 : M3.2.2 = M.2.2 := f3.1.trans e2
  have s3 : ∀ b, (b < S + 111 ∨ S + 120 ≤ b) → Same M M3 b := fun b hb => ⟨((f3.2 b (by omega)).1).trans (s2 b hb).1, ((f3.2 b (by omega)).2).trans (s2 b hb).2⟩
  have hoth := c_other (M := M3) (t := S + 111 + 3) (u := S + 117) (TQ.2.2.2.2.2.2.st e3) (TW.st e3)
  have t1 : tD M3 (S + 111 + 3) = mI M1 (S + 111 + 4) := ((f3.2 (S + 111 + 4) (by omega)).1).trans (f2.2 (S + 111 + 4) (by omega)).1
  have t2 : tV M3 (S + 111 + 3) = mI M1 (S + 111 + 5) := ((f3.2 (S + 111 + 5) (by omega)).1).trans (f2.2 (S + 111 + 5) (by omega)).1
  have t3 : tD M3 (S + 117) = wn.1 := by rw [hM3, tSet_tD]
  have t4 : tV M3 (S + 117) = wn.2 := by rw [hM3, tSet_tV]
  rw [t1, t2, t3, t4] at hoth
  have hclass : cl 81 [.ref S] M = some (some (.int (m32 (fun f => decide (¬ mI M1 (S + 111 + 4) f = wn.1 f ∨ ¬ mI M1 (S + 111 + 5) f = wn.2 f)) 16)), M3) := by
    show rn 81 0 [some (.ref S), none, none] [] M = _
    have z : nI 0 = 0 := rfl
    rw [z] at hcw
    simp only [t81_0, t81_1, t81_4, t81_5, t81_8, t81_11, t81_12, t81_13, t81_16, t81_19, t81_20, K0, P0, P6, q1, q2, TW.1, va_rf_s, KK j4.1, PK j4.1, j3, hcl, cbn_v, ↓reduceIte]
    rw [hcw]
    simp only [t81_72, t81_73, t81_76, t81_79, t81_80, t81_83, t81_86, KK e3, PK e3, K0, P5, P6, TQ.1, TQ.2.2.2.1, TQ.2.2.2.2.2.2.1, va_rf_s, hoth, cbn_i, ↓reduceIte]
  have s0e : s0 = (fl (mI M (S + 117 + 1)) 16 (-6), va_up (fl (mI M (S + 117 + 2)) 16 (-6)) 0 0) := by
    have eD : tD M2 (S + 117) = fl (mI M (S + 117 + 1)) 16 (-6) := by
      rw [hM2]; unfold tClr tD; rw [mI_sI, if_neg (by omega), mI_sI, if_pos rfl, (j4.2 (S + 117 + 1) (by omega)).1]
    have eV : tV M2 (S + 117) = va_up (fl (mI M (S + 117 + 2)) 16 (-6)) 0 0 := by
      rw [hM2]; unfold tClr tV; rw [mI_sI, if_pos rfl, (j4.2 (S + 117 + 2) (by omega)).1]
    rw [hs0, eD, eV]
  refine ⟨j, s0, M3, j1, j0, j2, s0e, fun f hf => by rw [hs0]; exact hD2 f hf, by rw [hs0]; exact hV0, fun f h0 hf => by rw [hs0]; exact hVf f h0 hf, ((j4.mono (by omega) (by omega)).trans (f2.mono (by omega) (by omega))).trans (f3.mono (by omega) (by omega)), ?_⟩
  rw [← hM1, ← hwn]
  exact hclass
