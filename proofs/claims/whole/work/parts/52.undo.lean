/-! undo, save, restore -/
abbrev Same (M M' : SM) (b : Nat) : Prop := mI M' b = mI M b ∧ mJ M' b = mJ M b
theorem hist_eq {M M' : SM} {S B : Nat} (h : ∃ nx k, Hist M S B nx k (mI M (S + 151)) ∧ mI M (S + 148) 3 = nI k) (he : ∀ b, ((S + 14 ≤ b ∧ b < S + 107) ∨ b = S + 151) → Same M M' b) (h3 : mI M' (S + 148) 3 = mI M (S + 148) 3) : ∃ nx k, Hist M' S B nx k (mI M' (S + 151)) ∧ mI M' (S + 148) 3 = nI k := by
  obtain ⟨nx, k, ⟨h1, h2, h4, h5, h6⟩, h7⟩ := h
  refine ⟨nx, k, ⟨h1, h2, ?_, ?_, fun i hi => ?_⟩, h3.trans h7⟩
  · rw [(he (S + 14) (by omega)).1]; exact h4
  · rw [(he (S + 14) (by omega)).1]; exact h5
  · obtain ⟨n, R, a, b⟩ := h6 i hi
    rw [(he (S + 151) (by omega)).1]
    exact ⟨n, R, a, SR_eq b (fun b b1 b2 => he b (by omega))⟩
theorem slots_eq {M M' : SM} {S B : Nat} (h : Slots M S B) (he : ∀ b, ((S + 120 ≤ b ∧ b < S + 148) ∨ b = S + 152 ∨ b = S + 153) → Same M M' b) : Slots M' S B := by
  intro i hi
  obtain ⟨a, b⟩ := h i hi
  rw [(he (S + 120 + 14 * i) (by omega)).1, (he (S + 153) (by omega)).1, (he (S + 152) (by omega)).1]
  refine ⟨a, ?_⟩
  rcases b with b | ⟨b, n, R, c, d⟩
  · exact Or.inl b
  · exact Or.inr ⟨b, n, R, c, SR_eq d (fun b b1 b2 => he b (by omega))⟩
theorem pad_eq {M M' : SM} {S : Nat} (h : PadR M S) (he : ∀ b, (b = S + 109 ∨ b = S + 110 ∨ b = S + 154) → Same M M' b) (h7 : mI M' (S + 148) 7 = mI M (S + 148) 7) : PadR M' S := by
  obtain ⟨l, p1, p2, p3, p4⟩ := h
  refine ⟨l, p1, ?_, h7.trans p3, ?_⟩
  · rw [(he (S + 109) (by omega)).1]; exact p2
  · rw [(he (S + 110) (by omega)).1, (he (S + 154) (by omega)).1]; exact p4
theorem blk_in {f g : Nat → Int32} {j n x y : Nat} (h : y < n) (hx : x = j + y) : blk f j g 0 n x = g y := by
  unfold blk
  rw [if_pos (by omega), show 0 + (x - j) = y by omega]
theorem blk_at {f g : Nat → Int32} {j i n x : Nat} (h : x < n) : blk f j g i n (j + x) = g (i + x) := by
  unfold blk
  rw [if_pos (by omega), show i + (j + x - j) = i + x by omega]
theorem blk_no {f g : Nat → Int32} {j i n x : Nat} (h : x < j ∨ j + n ≤ x) : blk f j g i n x = f x := by
  unfold blk
  rw [if_neg (by omega)]
theorem c_takeBack {M : SM} {S sb L B nx k : Nat} (hS : Stat M S sb L) (h1 : nx < 7) (h2 : k ≤ 6) (h3 : mI M (S + 14) 1 = nI nx) (h4 : mI M (S + 14) 2 = nI k) (k0 : ¬ k = 0) :
    ∃ M1 M2, M1 = sI M (S + 14) (va_up (va_up (mI M (S + 14)) 1 (nI (if nx = 0 then 6 else nx - 1))) 2 (nI (k - 1))) ∧ cl 95 [.ref (S + 14), .ref (S + 1)] M = some (some (.int (nI (k - 1))), M2) ∧ Fr M1 M2 (S + 2) (S + 14) ∧ ∀ w n R, SR M1 (S + 16 + 13 * (if nx = 0 then 6 else nx - 1)) w n R → SR M2 (S + 1) w n R := by
  obtain ⟨⟨K0, P0, P1, P2, P3, P4, P5, P6⟩, SN, ⟨KH, PH, KR, RG⟩, ⟨KL, SL⟩, ⟨KP, PP, KC⟩, ⟨KD, PD⟩, TQ, TW, MM, ⟨LO1, LO2, LO3, LO4⟩⟩ := id hS
  generalize hp : (if nx = 0 then 6 else nx - 1) = p
  have hp7 : p < 7 := by rw [← hp]; split <;> omega
  obtain ⟨M1, hM1⟩ : ∃ M1, M1 = sI M (S + 14) (va_up (va_up (mI M (S + 14)) 1 (nI p)) 2 (nI (k - 1))) := ⟨_, rfl⟩
  have e1 : M1.2.2 = M.2.2 := by rw [hM1]; rfl
  obtain ⟨g1, g2⟩ := RG p hp7
  obtain ⟨M2, b1, b2, b3⟩ := c_stCopy (M := M1) (s := S + 1) (t := S + 16 + 13 * p) (SN.st e1) (g2.st e1) (by omega)
  refine ⟨M1, M2, hM1, ?_, b2.mono (by omega) (by omega), b3⟩
  have ek : (nI k = 0) = False := by rw [show (0 : Int32) = nI 0 from rfl, nI_inj (by omega) (by omega)]; exact eq_false k0
  have ep : nI k - 1 = nI (k - 1) := by
    obtain ⟨k', rfl⟩ : ∃ k', k = k' + 1 := ⟨k - 1, by omega⟩
    exact nI_pred k'
  have e2 : ∀ v, va_up (mI M (S + 14)) 1 v 2 = nI k := fun v => (va_up_ne _ _ (by decide)).trans h4
  have e3 : mI M2 (S + 14) 2 = nI (k - 1) := by
    rw [(b2.2 (S + 14) (by omega)).1, hM1, mI_sI, if_pos rfl, va_up_self]
  have e4 : ∀ v u, va_up (va_up (mI M (S + 14)) 1 v) 2 u 1 = v := fun v u => by rw [va_up_ne _ _ (by decide), va_up_self]
  have hin : inR (nI p) 7 = True := i_inT hp7 (by decide)
  show rn 95 0 [some (.ref (S + 14)), some (.ref (S + 1))] [] M = _
  by_cases q : nx = 0
  · have hp6 : p = 6 := by rw [← hp, if_pos q]
    subst q
    subst hp6
    rw [show nI 0 = 0 from rfl] at h3
    rw [show nI 6 = 6 from rfl] at hM1 hin
    have c6 : (6 : Int32).toNatClampNeg = 6 := by decide
    simp only [t95_0, t95_1, t95_4, t95_7, t95_9, t95_10, t95_11, t95_12, t95_15, t95_18, t95_20, t95_23, t95_24, t95_27, t95_28, t95_29, t95_32, t95_33, t95_34, t95_37, t95_38, t95_39, t95_42, t95_43, t95_44, t95_47, t95_48, t95_51, t95_52, t95_55, t95_56, t95_59, KH, PH, KR, h4, ek, h3, ↓reduceIte, not_true_eq_false, not_false_eq_true, mK_sI, mI_sI, mP_sI, e2, ep, sI_sI, e4, va_rf_s, true_or, hin, c6, and_self, g1, SN.1]
    rw [← hM1]
    simp only [t95_0, t95_1, t95_4, t95_7, t95_9, t95_10, t95_11, t95_12, t95_15, t95_18, t95_20, t95_23, t95_24, t95_27, t95_28, t95_29, t95_32, t95_33, t95_34, t95_37, t95_38, t95_39, t95_42, t95_43, t95_44, t95_47, t95_48, t95_51, t95_52, t95_55, t95_56, t95_59, ↓reduceIte, b1, cbn_v, KK b2.1, KK e1, KH, e3]
  · have hpn : nI nx - 1 = nI p := by
      rw [← hp, if_neg q]
      obtain ⟨k', rfl⟩ : ∃ k', nx = k' + 1 := ⟨nx - 1, by omega⟩
      exact nI_pred k'
    have en : (nI nx = 0) = False := by rw [show (0 : Int32) = nI 0 from rfl, nI_inj (by omega) (by omega)]; exact eq_false q
    simp only [t95_0, t95_1, t95_4, t95_7, t95_9, t95_10, t95_11, t95_12, t95_15, t95_18, t95_20, t95_23, t95_24, t95_27, t95_28, t95_29, t95_32, t95_33, t95_34, t95_37, t95_38, t95_39, t95_42, t95_43, t95_44, t95_47, t95_48, t95_51, t95_52, t95_55, t95_56, t95_59, KH, PH, KR, h4, ek, h3, en, hpn, ↓reduceIte, not_true_eq_false, not_false_eq_true, mK_sI, mI_sI, mP_sI, e2, ep, sI_sI, e4, va_rf_s, true_or, hin, nI_c (show p < 2147483648 by omega), and_self, g1, SN.1]
    rw [← hM1]
    simp only [t95_0, t95_1, t95_4, t95_7, t95_9, t95_10, t95_11, t95_12, t95_15, t95_18, t95_20, t95_23, t95_24, t95_27, t95_28, t95_29, t95_32, t95_33, t95_34, t95_37, t95_38, t95_39, t95_42, t95_43, t95_44, t95_47, t95_48, t95_51, t95_52, t95_55, t95_56, t95_59, ↓reduceIte, b1, cbn_v, KK b2.1, KK e1, KH, e3]
theorem p_undo {M : SM} {S sb L B : Nat} {xs : Nat → Int32} (h : Rel M S sb L xs B) : PairI 94 173 [] M S sb L xs B := by
  obtain ⟨⟨K0, P0, P1, P2, P3, P4, P5, P6⟩, SN, ⟨KH, PH, KR, RG⟩, ⟨KL, SL⟩, ⟨KP, PP, KC⟩, ⟨KD, PD⟩, TQ, TW, MM, ⟨LO1, LO2, LO3, LO4⟩⟩ := id h.1.1
  obtain ⟨⟨hS, ⟨nx, k, ⟨h1, h2, h3, h4, h5⟩, h6⟩, hs, hp, hx⟩, n0, R0, hB0, hN0⟩ := id h
  have one0 : ((1 : Int32) = 0) = False := by decide
  by_cases k0 : k = 0
  · subst k0
    rw [show nI 0 = 0 from rfl] at h4 h6
    refine ⟨-5, M, M, Low.refl _ _, ?_, ?_, h⟩
    · have : cl 95 [.ref (S + 14), .ref (S + 1)] M = some (some (.int (-5)), M) := by
        show rn 95 0 [some (.ref (S + 14)), some (.ref (S + 1))] [] M = _
        simp only [t95_0, t95_1, t95_4, t95_7, t95_9, t95_10, t95_11, t95_12, t95_15, t95_18, t95_20, t95_23, t95_24, t95_27, t95_28, t95_29, t95_32, t95_33, t95_34, t95_37, t95_38, t95_39, t95_42, t95_43, t95_44, t95_47, t95_48, t95_51, t95_52, t95_55, t95_56, t95_59, KH, h4, ↓reduceIte, not_true_eq_false]
      show rn 94 0 [some (.ref S)] [] M = _
      simp only [t94_0, t94_1, t94_4, t94_5, t94_8, t94_11, K0, P0, P1, va_rf_s, KH, ↓reduceIte, this, cbn_i]
    · show rn 173 0 [some (.ref (S + 148))] [] M = _
      simp only [t173_0, t173_1, t173_4, t173_7, t173_9, t173_10, t173_11, t173_12, t173_15, t173_16, t173_17, t173_20, t173_21, t173_24, t173_25, t173_28, t173_31, t173_32, t173_33, t173_36, t173_37, t173_40, t173_41, t173_44, MM.1, h6, ↓reduceIte, not_true_eq_false]
  · obtain ⟨M1, M2, a1, a2, a3, a4⟩ := c_takeBack (B := B) hS h1 h2 h3 h4 k0
    have e1 : M1.2.2 = M.2.2 := by rw [a1]; rfl
    have hF1 : Fr M M1 (S + 14) (S + 15) := by rw [a1]; exact Fr.sI _ (by omega) (by omega)
    have e2 : M2.2.2 = M.2.2 := a3.1.trans e1
    have same2 : ∀ b, (b < S + 2 ∨ S + 15 ≤ b) → Same M M2 b := fun b hb => ⟨((a3.2 b (by omega)).1).trans (hF1.2 b (by omega)).1, ((a3.2 b (by omega)).2).trans (hF1.2 b (by omega)).2⟩
    have m2 : mI M2 (S + 148) = mI M (S + 148) := (same2 _ (by omega)).1
    obtain ⟨M3, hM3⟩ : ∃ M3, M3 = sI M2 (S + 148) (va_up (mI M2 (S + 148)) 3 (nI (k - 1))) := ⟨_, rfl⟩
    have e3 : M3.2.2 = M.2.2 := by rw [hM3]; exact e2
    have hmv := c_moves (M := M3) (a := S + 148 + 3) (b := S + 148 + 1) (la := 2220) (lb := 370) (i := 370 * (k - 1)) (j := 0) (by rw [KK e3]; exact MM.2.2.2.2.2.2.2.2.2.2.2.2.1) (by rw [KK e3]; exact MM.2.2.2.2.2.2.2.2.2.2.1) (by omega) (by omega) (by decide) (by decide) (by decide)
    obtain ⟨M4, hM4⟩ : ∃ M4, M4 = sI M3 (S + 148 + 1) (blk (mI M3 (S + 148 + 1)) 0 (mI M3 (S + 148 + 3)) (370 * (k - 1)) 370) := ⟨_, rfl⟩
    rw [← hM4] at hmv
    have e4 : M4.2.2 = M.2.2 := by rw [hM4]; exact e3
    have f4 : ∀ b, ¬ b = S + 148 → ¬ b = S + 148 + 1 → Same M2 M4 b := fun b h1 h2 => by
      rw [hM4, hM3]
      exact ⟨by rw [mI_sI, if_neg h2, mI_sI, if_neg h1], rfl⟩
    have s4 : ∀ b, (b < S + 2 ∨ (S + 15 ≤ b ∧ b < S + 148) ∨ S + 150 ≤ b) → Same M M4 b := fun b hb => by
      obtain ⟨u, v⟩ := f4 b (by omega) (by omega)
      obtain ⟨u', v'⟩ := same2 b (by omega)
      exact ⟨u.trans u', v.trans v'⟩
    have r148 : mI M4 (S + 148) = va_up (mI M (S + 148)) 3 (nI (k - 1)) := by
      rw [hM4, mI_sI, if_neg (by omega), hM3, mI_sI, if_pos rfl, m2]
    have r149 : mI M4 (S + 149) = blk (mI M (S + 149)) 0 (mI M (S + 151)) (370 * (k - 1)) 370 := by
      have x1 : mI M3 (S + 148 + 1) = mI M (S + 149) := by
        rw [hM3, mI_sI, if_neg (by omega)]; exact (same2 _ (by omega)).1
      have x3 : mI M3 (S + 148 + 3) = mI M (S + 151) := by
        rw [hM3, mI_sI, if_neg (by omega)]; exact (same2 _ (by omega)).1
      rw [hM4, show S + 149 = S + 148 + 1 from rfl, mI_sI, if_pos rfl, x1, x3]
    have r14 : mI M4 (S + 14) = va_up (va_up (mI M (S + 14)) 1 (nI (if nx = 0 then 6 else nx - 1))) 2 (nI (k - 1)) := by
      rw [(f4 (S + 14) (by omega) (by omega)).1, (a3.2 (S + 14) (by omega)).1, a1, mI_sI, if_pos rfl]
    refine ⟨nI (k - 1), M2, M4, ⟨e2, fun b hb => (same2 b (by omega)).1⟩, ?_, ?_, ⟨⟨hS.st e4, ⟨if nx = 0 then 6 else nx - 1, k - 1, ⟨by split <;> omega, by omega, ?_, ?_, ?_⟩, ?_⟩, slots_eq hs (fun b hb => s4 b (by omega)), pad_eq hp (fun b hb => s4 b (by omega)) ?_, ?_⟩, ?_⟩⟩
    · show rn 94 0 [some (.ref S)] [] M = _
      simp only [t94_0, t94_1, t94_4, t94_5, t94_8, t94_11, K0, P0, P1, va_rf_s, KH, ↓reduceIte, a2, cbn_i]
    · show rn 173 0 [some (.ref (S + 148))] [] M2 = _
      have ek : (nI k = 0) = False := by rw [show (0 : Int32) = nI 0 from rfl, nI_inj (by omega) (by omega)]; exact eq_false k0
      have ep : nI k - 1 = nI (k - 1) := by
        obtain ⟨k', rfl⟩ : ∃ k', k = k' + 1 := ⟨k - 1, by omega⟩
        exact nI_pred k'
      have em : nI (k - 1) * 370 = nI (370 * (k - 1)) := by rw [show (370 : Int32) = nI 370 from rfl, pk_mul, Nat.mul_comm]
      rw [show nI 0 = 0 from rfl] at hmv
      have h6' : mI M2 (S + 148) 3 = nI k := by rw [m2]; exact h6
      simp only [t173_0, t173_1, t173_4, t173_7, t173_9, t173_10, t173_11, t173_12, t173_15, t173_16, t173_17, t173_20, t173_21, t173_24, t173_25, t173_28, t173_31, t173_32, t173_33, t173_36, t173_37, t173_40, t173_41, t173_44, KK e2, PK e2, MM.1, h6', ek, ↓reduceIte, not_false_eq_true, ep]
      rw [← hM3]
      have h63 : mI M3 (S + 148) 3 = nI (k - 1) := by rw [hM3, mI_sI, if_pos rfl, va_up_self]
      have h64 : mI M4 (S + 148) 3 = nI (k - 1) := by rw [r148, va_up_self]
      simp only [t173_0, t173_1, t173_4, t173_7, t173_9, t173_10, t173_11, t173_12, t173_15, t173_16, t173_17, t173_20, t173_21, t173_24, t173_25, t173_28, t173_31, t173_32, t173_33, t173_36, t173_37, t173_40, t173_41, t173_44, KK e3, PK e3, KK e4, PK e4, MM.1, MM.2.1, MM.2.2.2.1, va_rf_s, h63, h64, em, ↓reduceIte, hmv, cbn_v]
    · rw [r14, va_up_ne _ _ (by decide), va_up_self]
    · rw [r14, va_up_self]
    · intro i hi
      obtain ⟨n, R, u, v⟩ := h5 i (by omega)
      rw [(s4 (S + 151) (by omega)).1]
      refine ⟨n, R, u, ?_⟩
      have : ((if nx = 0 then 6 else nx - 1) + 7 - (k - 1) + i) % 7 = (nx + 7 - k + i) % 7 := by split <;> omega
      rw [this]
      exact SR_eq v (fun b b1 b2 => s4 b (by omega))
    · rw [r148, va_up_self]
    · rw [r148, va_up_ne _ _ (by decide)]
    · rw [(s4 sb (by omega)).1]; exact hx
    · obtain ⟨n, R, u, v⟩ := h5 (k - 1) (by omega)
      refine ⟨n, R, u, ?_⟩
      have hpl : (nx + 7 - k + (k - 1)) % 7 = (if nx = 0 then 6 else nx - 1) := by split <;> omega
      rw [hpl] at v
      have v1 := a4 _ _ _ (SR_fr v hF1 (by split <;> omega))
      rw [r149]
      refine SR_w (SR_eq v1 (fun b b1 b2 => f4 b (by omega) (by omega))) (fun j hj => ?_)
      have := blk_at (f := mI M (S + 149)) (g := mI M (S + 151)) (j := 0) (i := 370 * (k - 1)) (n := 370) hj
      rw [Nat.zero_add] at this
      exact this
