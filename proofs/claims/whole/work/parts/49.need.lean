/-! a dependency told -/
theorem cnt_40 {x : Int64} {n : Nat} (h40 : n ≤ 40) (h : ∀ k, bt x k = true → k < n) : cnt (bt x) 64 = cnt (bt x) 40 := cnt_more _ (by omega) (fun i h1 _ => by
  cases q : bt x i with
  | false => rfl
  | true => have := h i q; omega)
theorem LRel_need {K F A : Nat → Int32} {nd ln : Nat → Int64} {lost : Int64} {w : Nat → Int32} {n e k : Nat} (h : LRel K F A nd ln lost w n) (he : e < n) (hk : k < e) : LRel K F A (va_up nd e (nd e ||| bE k)) (leanT (va_up nd e (nd e ||| bE k)) ln e (n - e)) lost (dpW w e k) n := by
  obtain ⟨n40, w0, ok, row, lst, lsn, nds, ndb, lns⟩ := h
  have far : ∀ x p, p < 6 → dpW w e k (2 + 8 * x + p) = w (2 + 8 * x + p) := fun x p hp => dpW_ne (by omega) (by omega)
  refine ⟨n40, (dpW_ne (by omega) (by omega)).trans w0, ok, ?_, ?_, lsn, ?_, ?_, ?_⟩
  · intro x hx
    obtain ⟨a, b, c⟩ := row x hx
    exact ⟨(far x 0 (by decide)).trans a, (far x 1 (by decide)).trans b, (far x 2 (by decide)).trans c⟩
  · intro x hx
    exact (far x 3 (by decide)).trans (lst x hx)
  · intro x hx
    by_cases q : x = e
    · subst q
      rw [va_up_self]
      unfold rNd
      rw [dpW_dp (by omega), ← nds x hx]
      rfl
    · rw [va_up_ne _ _ q, ← nds x hx]
      unfold rNd
      rw [dpW_ne (by omega) (by omega), dpW_ne (by omega) (by omega)]
  · intro x hx j hj
    by_cases q : x = e
    · subst q
      rw [va_up_self, bt_or, bt_bE (by omega), Bool.or_eq_true, decide_eq_true_eq] at hj
      rcases hj with hj | hj
      · exact ndb x hx j hj
      · omega
    · rw [va_up_ne _ _ q] at hj
      exact ndb x hx j hj
  · intro x hx
    by_cases q : e ≤ x
    · exact leanT_at (n - e) x q (by omega)
    · rw [leanT_out (n - e) x (by omega), va_up_ne _ _ (by omega), lns x hx]
      exact orL_cong (fun j hj => by rw [leanT_out (n - e) j (by omega)])
/-- both begin anew -/
theorem anew_both {C C' : SM} {s n R : Nat} {w u : Nat → Int32} (hL : LR C (s + 1) u n) (hR : RR C (s + 7) w n R) (hC : C' = rClr C (s + 7)) : ∀ M m, ModAt M m → mI M (m + 1) = u → ∃ W, cl 123 [.ref m] M = some (none, sI M (m + 1) W) ∧ SR C' s W n 0 ∧ ∀ e, e < n → ∀ p, p < 8 → p ≠ 4 → p ≠ 5 → W (2 + 8 * e + p) = u (2 + 8 * e + p) := by
  intro M m hm hu
  obtain ⟨W, h1, h2, h3, h4, h5⟩ := c_beginsAnew (n := n) hm (by rw [hu]; exact hL.2.2.1) hL.2.1
  rw [hu] at h4
  have hk : ∀ e, e < n → ∀ p, p < 8 → p ≠ 4 → p ≠ 5 → W (2 + 8 * e + p) = u (2 + 8 * e + p) := fun e he p hp p4 p5 => h4 _ (by have := hL.2.1; omega) (by omega) (fun e' he' => ⟨by omega, by omega⟩)
  refine ⟨W, h1, ⟨?_, ?_⟩, hk⟩
  · rw [hC]
    refine LR_fr ⟨hL.1, LR_keep hL.2 (h4 0 (by decide) (by decide) (fun e he => ⟨by omega, by omega⟩)) hk⟩ (Fr_rClr C (s + 7)) (by omega)
  · rw [hC]
    exact RR_clr hL.2.1 h2 h3 h5
theorem st_need {C : SM} {s n R : Nat} {w : Nat → Int32} (hC : StAt C s) (hS : SR C s w n R) (x y : Int32) : ∃ e C', cl 35 [.ref s, .int x, .int y] C = some (some (.int e), C') ∧ Fr C C' (s + 1) (s + 13) ∧ StepR C C' s w e (fun M m => cl 120 [.ref m, .int x, .int y] M) (fun M m => cl 122 [.ref m, .int x, .int y] M) 0 := by
  obtain ⟨k1, k2, k3, k4, k5⟩ := hC
  have hL := hS.1
  have n40 := hL.2.1
  have hl := c_lhas k4 (M := C)
  rw [hL.1] at hl
  have ge : (x ≤ y) = ¬ y < x := propext Int32.not_lt.symm
  have one0 : ((1 : Int32) = 0) = False := by decide
  have why : ∀ M m, ModAt M m → mI M (m + 1) = w → cl 120 [.ref m, .int x, .int y] M = some (some (.int (if (x < 0 ∨ nI n ≤ x) ∨ (y < 0 ∨ nI n ≤ y) then -1 else if y < x then 0 else -5)), M) := by
    intro M m hm hw
    have hi := fun z => c_mEntry (n := n) hm (by rw [hw]; exact hL.2.2.1) n40 z
    show rn 120 0 [some (.ref m), some (.int x), some (.int y)] [] M = _
    by_cases q1 : x < 0 ∨ nI n ≤ x <;> by_cases q2 : y < 0 ∨ nI n ≤ y <;> by_cases q3 : y < x <;> simp only [t120_0, t120_1, t120_2, t120_5, t120_8, t120_9, t120_10, t120_13, t120_16, t120_17, t120_20, t120_21, t120_22, t120_25, t120_26, t120_29, t120_31, hm.1, hi, cbn_i, q1, q2, q3, ge, one0, or_self, or_true, true_or, or_false, false_or, ↓reduceIte, not_true_eq_false, not_false_eq_true]
  by_cases q1 : (x < 0 ∨ nI n ≤ x) ∨ (y < 0 ∨ nI n ≤ y)
  · refine ⟨-1, C, ?_, Fr.refl _ _ _, Or.inl ⟨by decide, rfl, fun M m hm hw => ?_⟩⟩
    · show rn 35 0 [some (.ref s), some (.int x), some (.int y)] [] C = _
      by_cases q2 : x < 0 ∨ nI n ≤ x
      · simp only [t35_0, t35_1, t35_4, t35_5, t35_8, t35_11, t35_12, t35_15, t35_16, t35_19, t35_22, t35_23, t35_24, t35_25, t35_26, t35_29, t35_31, t35_32, t35_33, t35_36, t35_39, t35_40, t35_41, t35_42, t35_43, t35_46, t35_47, t35_48, t35_49, t35_52, t35_53, t35_56, t35_57, t35_60, t35_63, t35_64, t35_67, t35_70, t35_71, t35_72, t35_75, k1, k2, k4.1, va_rf_s, hl, cbn_i, q2, ↓reduceIte]
      · have q3 : y < 0 ∨ nI n ≤ y := q1.resolve_left q2
        simp only [t35_0, t35_1, t35_4, t35_5, t35_8, t35_11, t35_12, t35_15, t35_16, t35_19, t35_22, t35_23, t35_24, t35_25, t35_26, t35_29, t35_31, t35_32, t35_33, t35_36, t35_39, t35_40, t35_41, t35_42, t35_43, t35_46, t35_47, t35_48, t35_49, t35_52, t35_53, t35_56, t35_57, t35_60, t35_63, t35_64, t35_67, t35_70, t35_71, t35_72, t35_75, k1, k2, k4.1, va_rf_s, hl, cbn_i, q2, q3, one0, ↓reduceIte, not_true_eq_false]
    · refine (why M m hm hw).trans ?_
      rw [if_pos q1]
  · obtain ⟨e, he, rfl⟩ := ent_of (n := n) (by omega) (fun z => q1 (Or.inl z))
    obtain ⟨k, hk, rfl⟩ := ent_of (x := y) (n := n) (by omega) (fun z => q1 (Or.inr z))
    have i1 := ent_in (n := n) (by omega) he
    have i2 := ent_in (n := n) (by omega) hk
    have hlt : (nI k < nI e) = (k < e) := i_lt (by omega) (by omega)
    by_cases q2 : k < e
    · have hc4 := (k4.2.2.2.2.1)
      have ie : inR (nI e) 40 = True := i_inT (by omega) (by decide)
      obtain ⟨C1, hC1⟩ : ∃ C1, C1 = sJ C (s + 1 + 4) (va_up (mJ C (s + 1 + 4)) e (mJ C (s + 1 + 4) e ||| bE k)) := ⟨_, rfl⟩
      have f1 : Fr C C1 (s + 1) (s + 13) := by rw [hC1]; exact Fr.sJ _ (by omega) (by omega)
      have e14 : mJ C1 (s + 1 + 4) = va_up (mJ C (s + 1 + 4)) e (mJ C (s + 1 + 4) e ||| bE k) := by rw [hC1, mJ_sJ, if_pos rfl]
      have e15 : mJ C1 (s + 1 + 5) = mJ C (s + 1 + 5) := by rw [hC1, mJ_sJ, if_neg (by omega)]
      have i1' : mI C1 = mI C := by rw [hC1]; rfl
      have hle := c_lean (M := C1) (h := s + 1) (n := n) (a := e) (k4.st f1.1) (by rw [i1']; exact hL.1) n40 (by omega)
      rw [e14, e15] at hle
      obtain ⟨C2, hC2⟩ : ∃ C2, C2 = sJ C1 (s + 1 + 5) (leanT (va_up (mJ C (s + 1 + 4)) e (mJ C (s + 1 + 4) e ||| bE k)) (mJ C (s + 1 + 5)) e (n - e)) := ⟨_, rfl⟩
      rw [← hC2] at hle
      have f2 : Fr C1 C2 (s + 1) (s + 13) := by rw [hC2]; exact Fr.sJ _ (by omega) (by omega)
      have f12 := f1.trans f2
      have hcl := c_rClear (M := C2) (r := s + 7) (k5.st f12.1)
      have f3 := (Fr_rClr C2 (s + 7)).mono (lo' := s + 1) (hi' := s + 13) (by omega) (by omega)
      have f13 := f12.trans f3
      have j4 : mJ (rClr C2 (s + 7)) (s + 1 + 4) = va_up (mJ C (s + 1 + 4)) e (mJ C (s + 1 + 4) e ||| bE k) := by
        rw [((Fr_rClr C2 (s + 7)).2 (s + 1 + 4) (by omega)).2, hC2, mJ_sJ, if_neg (by omega), e14]
      have hL2 : LR C2 (s + 1) (dpW w e k) n := by
        have := LRel_need hL.2 he q2
        unfold LR
        rw [hC2, hC1]
        simp only [mI_sJ, mJ_sJ, ↓reduceIte, show ¬ s + 1 = s + 1 + 4 by omega, show ¬ s + 1 = s + 1 + 5 by omega, show ¬ s + 1 + 4 = s + 1 + 5 by omega]
        exact ⟨hL.1, this⟩
      have hb : ∀ j, bt (mJ C (s + 1 + 4) e ||| bE k) j = true → j < n := by
        intro j hj
        have := hL2.2.2.2.2.2.2.2.2.1 e he j (by
          have e4 : mJ C2 (s + 1 + 4) = va_up (mJ C (s + 1 + 4)) e (mJ C (s + 1 + 4) e ||| bE k) := by rw [hC2, mJ_sJ, if_neg (by omega), e14]
          rw [e4, va_up_self]; exact hj)
        omega
      refine ⟨nI (cnt (bt (mJ C (s + 1 + 4) e ||| bE k)) 64), rClr C2 (s + 7), ?_, f13, Or.inr ⟨nI_pos (by have := cnt_le (bt (mJ C (s + 1 + 4) e ||| bE k)) 64; omega), fun M m hm hw => ?_⟩⟩
      · show rn 35 0 [some (.ref s), some (.int (nI e)), some (.int (nI k))] [] C = _
        simp only [t35_0, t35_1, t35_4, t35_5, t35_8, t35_11, t35_12, t35_15, t35_16, t35_19, t35_22, t35_23, t35_24, t35_25, t35_26, t35_29, t35_31, t35_32, t35_33, t35_36, t35_39, t35_40, t35_41, t35_42, t35_43, t35_46, t35_47, t35_48, t35_49, t35_52, t35_53, t35_56, t35_57, t35_60, t35_63, t35_64, t35_67, t35_70, t35_71, t35_72, t35_75, k1, k2, k3, k4.1, k4.2.2.2.2.1, k4.2.2.2.2.2.2.2.2.2.1, va_rf_s, hl, cbn_i, cbn_v, i1, i2, hlt, q2, one0, ie, c_bit, nI_c (show e < 2147483648 by omega), ↓reduceIte, not_false_eq_true, and_self]
        rw [← hC1]
        simp only [t35_0, t35_1, t35_4, t35_5, t35_8, t35_11, t35_12, t35_15, t35_16, t35_19, t35_22, t35_23, t35_24, t35_25, t35_26, t35_29, t35_31, t35_32, t35_33, t35_36, t35_39, t35_40, t35_41, t35_42, t35_43, t35_46, t35_47, t35_48, t35_49, t35_52, t35_53, t35_56, t35_57, t35_60, t35_63, t35_64, t35_67, t35_70, t35_71, t35_72, t35_75, KK f1.1, PK f1.1, KK f12.1, PK f12.1, KK f13.1, PK f13.1, k1, k2, k3, k4.1, k4.2.2.2.2.1, k4.2.2.2.2.2.2.2.2.2.1, k5.1, va_rf_s, hle, hcl, cbn_i, cbn_v, ie, nI_c (show e < 2147483648 by omega), j4, va_up_self, c_bitCount, ↓reduceIte, and_self]
      · refine ⟨?_, ?_⟩
        · refine (why M m hm hw).trans ?_
          rw [if_neg q1, if_pos (by rw [hlt]; exact q2)]
        · have hdp := c_depends (M := M) (e := e) (d := k) hm (by omega) (by omega)
          rw [hw] at hdp
          obtain ⟨W, b1, b2, b3⟩ := anew_both (C' := rClr C2 (s + 7)) hL2 (RR_fr hS.2 (hi := s + 7) (lo := s + 1) (M' := C2) (by
            rw [hC2, hC1]
            exact (Fr.sJ _ (by omega) (by omega)).trans (Fr.sJ _ (by omega) (by omega))) (by omega)) rfl (sI M (m + 1) (dpW w e k)) m (hm.sI _ _) (by rw [mI_sI, if_pos rfl])
          rw [sI_sI] at b1
          have hdd := c_deps (M := sI M (m + 1) W) (e := e) (hm.sI _ _) (by omega)
          rw [mI_sI, if_pos rfl] at hdd
          have er : dpN (W (2 + 8 * e + 6)) (W (2 + 8 * e + 7)) = mJ C (s + 1 + 4) e ||| bE k := by
            have := b2.1.2.2.2.2.2.2.2.1 e he
            rw [j4, va_up_self] at this
            exact this
          rw [er] at hdd
          refine ⟨sI M (m + 1) W, ?_, OpF.sI _ _ _, n, 0, Nat.le_refl _, by rw [mI_sI, if_pos rfl]; exact b2⟩
          show rn 122 0 [some (.ref m), some (.int (nI e)), some (.int (nI k))] [] M = _
          simp only [t122_0, t122_1, t122_2, t122_3, t122_6, t122_7, t122_10, t122_11, t122_12, t122_15, t122_18, hm.1, hdp, cbn_v, cbn_i, mK_sI, b1, hdd, c_bits, cnt_40 n40 hb, ↓reduceIte]
    · refine ⟨-5, C, ?_, Fr.refl _ _ _, Or.inl ⟨by decide, rfl, fun M m hm hw => ?_⟩⟩
      · show rn 35 0 [some (.ref s), some (.int (nI e)), some (.int (nI k))] [] C = _
        simp only [t35_0, t35_1, t35_4, t35_5, t35_8, t35_11, t35_12, t35_15, t35_16, t35_19, t35_22, t35_23, t35_24, t35_25, t35_26, t35_29, t35_31, t35_32, t35_33, t35_36, t35_39, t35_40, t35_41, t35_42, t35_43, t35_46, t35_47, t35_48, t35_49, t35_52, t35_53, t35_56, t35_57, t35_60, t35_63, t35_64, t35_67, t35_70, t35_71, t35_72, t35_75, k1, k2, k4.1, va_rf_s, hl, cbn_i, i1, i2, hlt, q2, one0, ↓reduceIte, not_false_eq_true]
      · refine (why M m hm hw).trans ?_
        rw [if_neg q1, if_neg (by rw [hlt]; exact q2)]
