/-! save, restore -/
theorem r_s (f : Int32) : (f < 0 ∨ 2 ≤ f) = (f < 0 ∨ 1 < f) := by
  have h2 : (2 : Int32).toInt = 2 := by decide
  have h1 : (1 : Int32).toInt = 1 := by decide
  have h0 : (0 : Int32).toInt = 0 := by decide
  rw [Int32.lt_iff_toInt_lt, Int32.lt_iff_toInt_lt, Int32.le_iff_toInt_le, h2, h1, h0]
  exact propext (by omega)
theorem slot_of {x : Int32} (h : ¬ (x < 0 ∨ 1 < x)) : ∃ i, i < 2 ∧ x = nI i := by
  rw [← r_s] at h
  rcases pk_ix x (n := 2) (by decide) with q | q | q
  · exact absurd (Or.inl q) h
  · exact absurd (Or.inr q) h
  · exact q
theorem slot_in {i : Nat} (h : i < 2) : (nI i < 0 ∨ 1 < nI i) = False := by
  rw [← r_s, lt0 (show i < 2147483648 by omega), show (2 : Int32) = nI 2 from rfl, i_le (by decide) (by omega), false_or]
  exact eq_false (by omega)
theorem p_save {M : SM} {S sb L B : Nat} {xs : Nat → Int32} (h : Rel M S sb L xs B) (x : Int32) : PairI 96 174 [.int x] M S sb L xs B := by
  obtain ⟨⟨K0, P0, P1, P2, P3, P4, P5, P6⟩, SN, ⟨KH, PH, KR, RG⟩, ⟨KL, SL⟩, ⟨KP, PP, KC⟩, ⟨KD, PD⟩, TQ, TW, MM, ⟨LO1, LO2, LO3, LO4⟩⟩ := id h.1.1
  obtain ⟨⟨hS, hh, hs, hp, hx⟩, n, R, hR, hN⟩ := id h
  have one0 : ((1 : Int32) = 0) = False := by decide
  by_cases q : x < 0 ∨ 1 < x
  · refine ⟨-2, M, M, Low.refl _ _, ?_, ?_, h⟩
    · show rn 96 0 [some (.ref S), some (.int x)] [] M = _
      simp only [t96_0, t96_1, t96_4, t96_7, t96_9, t96_10, t96_11, t96_14, t96_15, t96_16, t96_19, t96_20, t96_23, t96_26, t96_27, t96_30, t96_31, t96_32, t96_33, t96_36, t96_37, t96_40, t96_43, t96_46, c_isSlot, r_s, q, cbn_i, ↓reduceIte, not_true_eq_false]
    · show rn 174 0 [some (.ref (S + 148)), some (.int x)] [] M = _
      simp only [t174_0, t174_1, t174_2, t174_3, t174_6, t174_9, t174_11, t174_12, t174_13, t174_16, t174_17, t174_18, t174_21, t174_24, t174_25, t174_26, t174_29, t174_30, t174_33, t174_34, t174_35, t174_36, t174_37, t174_40, t174_41, t174_42, c_within, q, cbn_i, ↓reduceIte, not_true_eq_false]
  · obtain ⟨i, hi, rfl⟩ := slot_of q
    obtain ⟨s1, s2, s3, s4⟩ := SL i hi
    obtain ⟨M1, b1, b2, b3⟩ := c_stCopy (M := M) (s := S + 121 + 14 * i) (t := S + 1) s4 SN (by omega)
    have hin : inR (nI i) 2 = True := i_inT hi (by decide)
    obtain ⟨M2, hM2⟩ : ∃ M2, M2 = sI M1 (S + 120 + 14 * i) (va_up (mI M1 (S + 120 + 14 * i)) 1 1) := ⟨_, rfl⟩
    have e2 : M2.2.2 = M.2.2 := by rw [hM2]; exact b2.1
    have f2 : ∀ b, (b < S + 120 + 14 * i ∨ S + 134 + 14 * i ≤ b) → Same M M2 b := fun b hb => by
      rw [hM2]
      exact ⟨by rw [mI_sI, if_neg (by omega)]; exact (b2.2 b (by omega)).1, (b2.2 b (by omega)).2⟩
    have hmv := c_moves (M := M2) (a := S + 148 + 1) (b := S + 148 + 4) (la := 370) (lb := 740) (i := 0) (j := 370 * i) (by rw [KK e2]; exact MM.2.2.2.2.2.2.2.2.2.2.1) (by rw [KK e2]; exact MM.2.2.2.2.2.2.2.2.2.2.2.2.2.1) (by omega) (by decide) (by omega) (by decide) (by decide)
    obtain ⟨M3, hM3⟩ : ∃ M3, M3 = sI M2 (S + 148 + 4) (blk (mI M2 (S + 148 + 4)) (370 * i) (mI M2 (S + 148 + 1)) 0 370) := ⟨_, rfl⟩
    rw [← hM3] at hmv
    have e3 : M3.2.2 = M.2.2 := by rw [hM3]; exact e2
    obtain ⟨M4, hM4⟩ : ∃ M4, M4 = sI M3 (S + 148 + 5) (va_up (mI M3 (S + 148 + 5)) i 1) := ⟨_, rfl⟩
    have e4 : M4.2.2 = M.2.2 := by rw [hM4]; exact e3
    have f4 : ∀ b, ¬ b = S + 148 + 4 → ¬ b = S + 148 + 5 → Same M2 M4 b := fun b h1 h2 => by
      rw [hM4, hM3]
      exact ⟨by rw [mI_sI, if_neg h2, mI_sI, if_neg h1], rfl⟩
    have s4' : ∀ b, (b < S + 120 ∨ (S + 148 ≤ b ∧ b < S + 152) ∨ S + 154 ≤ b) → Same M M4 b := fun b hb => by
      obtain ⟨u, v⟩ := f4 b (by omega) (by omega)
      obtain ⟨u', v'⟩ := f2 b (by omega)
      exact ⟨u.trans u', v.trans v'⟩
    have r152 : mI M4 (S + 152) = blk (mI M (S + 152)) (370 * i) (mI M (S + 149)) 0 370 := by
      have x1 : mI M2 (S + 148 + 4) = mI M (S + 152) := (f2 _ (by omega)).1
      have x2 : mI M2 (S + 148 + 1) = mI M (S + 149) := (f2 _ (by omega)).1
      rw [hM4, mI_sI, if_neg (by omega), hM3, show S + 152 = S + 148 + 4 from rfl, mI_sI, if_pos rfl, x1, x2]
    have r153 : mI M4 (S + 153) = va_up (mI M (S + 153)) i 1 := by
      have x1 : mI M3 (S + 148 + 5) = mI M (S + 153) := by
        rw [hM3, mI_sI, if_neg (by omega)]; exact (f2 _ (by omega)).1
      rw [hM4, show S + 153 = S + 148 + 5 from rfl, mI_sI, if_pos rfl, x1]
    have hn0 : mI M (S + 1 + 1) 0 = nI n := hN.1.1
    have hw0 : mI M (S + 149) 0 = nI n := hN.1.2.2.1
    refine ⟨nI n, M2, M4, ⟨e2, fun b hb => (f2 b (by omega)).1⟩, ?_, ?_, ⟨⟨hS.st e4, hist_eq hh (fun b hb => s4' b (by omega)) ?_, ?_, pad_eq hp (fun b hb => s4' b (by omega)) ?_, ?_⟩, n, R, hR, ?_⟩⟩
    · show rn 96 0 [some (.ref S), some (.int (nI i))] [] M = _
      simp only [t96_0, t96_1, t96_4, t96_7, t96_9, t96_10, t96_11, t96_14, t96_15, t96_16, t96_19, t96_20, t96_23, t96_26, t96_27, t96_30, t96_31, t96_32, t96_33, t96_36, t96_37, t96_40, t96_43, t96_46, c_isSlot, r_s, slot_in hi, cbn_i, ↓reduceIte, one0, not_false_eq_true, K0, P0, P2, KL, s1, s2, s3, va_rf_s, or_true, hin, and_self, nI_c (show i < 2147483648 by omega), s4.1, b1, cbn_v, KK b2.1, PK b2.1, t96_33 (Or.inr rfl)]
      rw [← hM2]
      simp only [t96_0, t96_1, t96_4, t96_7, t96_9, t96_10, t96_11, t96_14, t96_15, t96_16, t96_19, t96_20, t96_23, t96_26, t96_27, t96_30, t96_31, t96_32, t96_33, t96_36, t96_37, t96_40, t96_43, t96_46, KK e2, PK e2, K0, P0, SN.1, SN.2.1, SN.2.2.2.1.1, va_rf_s, ↓reduceIte, (f2 (S + 1 + 1) (by omega)).1, hn0]
    · show rn 174 0 [some (.ref (S + 148)), some (.int (nI i))] [] M2 = _
      have em : (370 : Int32) * nI i = nI (370 * i) := pk_mul 370 i
      have h0in : inR 0 370 = True := eq_true (by decide)
      have e0 : (0 : Int32).toNatClampNeg = 0 := by decide
      rw [show nI 0 = 0 from rfl] at hmv
      have w4 : mI M4 (S + 148 + 1) 0 = nI n := by rw [(s4' (S + 148 + 1) (by omega)).1]; exact hw0
      simp only [t174_0, t174_1, t174_2, t174_3, t174_6, t174_9, t174_11, t174_12, t174_13, t174_16, t174_17, t174_18, t174_21, t174_24, t174_25, t174_26, t174_29, t174_30, t174_33, t174_34, t174_35, t174_36, t174_37, t174_40, t174_41, t174_42, c_within, slot_in hi, cbn_i, ↓reduceIte, one0, not_false_eq_true, KK e2, PK e2, MM.1, MM.2.1, MM.2.2.2.2.1, va_rf_s, em, hmv, cbn_v, KK e3, PK e3, MM.2.2.2.2.2.1, MM.2.2.2.2.2.2.2.2.2.2.2.2.2.2.1, hin, and_self, nI_c (show i < 2147483648 by omega)]
      rw [← hM4]
      simp only [t174_0, t174_1, t174_2, t174_3, t174_6, t174_9, t174_11, t174_12, t174_13, t174_16, t174_17, t174_18, t174_21, t174_24, t174_25, t174_26, t174_29, t174_30, t174_33, t174_34, t174_35, t174_36, t174_37, t174_40, t174_41, t174_42, KK e4, PK e4, MM.1, MM.2.1, MM.2.2.2.2.2.2.2.2.2.2.1, va_rf_s, ↓reduceIte, true_or, h0in, and_self, e0, w4]
    · rw [(s4' _ (by omega)).1]
    · intro j hj
      obtain ⟨u, v⟩ := hs j hj
      by_cases qj : j = i
      · subst qj
        rw [r153, r152, va_up_self]
        refine ⟨?_, Or.inr ⟨rfl, n, R, hR, ?_⟩⟩
        · rw [(f4 _ (by omega) (by omega)).1, hM2, mI_sI, if_pos rfl, va_up_self]
        · refine SR_w (SR_eq (b3 _ _ _ hN) (fun b b1 b2 => ?_)) (fun y hy => blk_in hy rfl)
          have := f4 b (by omega) (by omega)
          refine ⟨this.1.trans ?_, this.2.trans ?_⟩
          · rw [hM2, mI_sI, if_neg (by omega)]
          · rw [hM2]; rfl
      · rw [r153, r152, va_up_ne _ _ qj]
        have so : ∀ b, (S + 120 + 14 * j ≤ b ∧ b < S + 134 + 14 * j) → Same M M4 b := fun b hb => by
          obtain ⟨u, v⟩ := f4 b (by omega) (by omega)
          obtain ⟨u', v'⟩ := f2 b (by omega)
          exact ⟨u.trans u', v.trans v'⟩
        refine ⟨by rw [(so _ (by omega)).1]; exact u, ?_⟩
        rcases v with v | ⟨v, n', R', y, z⟩
        · exact Or.inl v
        · exact Or.inr ⟨v, n', R', y, SR_w (SR_eq z (fun b b1 b2 => so b (by omega))) (fun y hy => blk_no (by omega))⟩
    · rw [(s4' _ (by omega)).1]
    · rw [(s4' sb (by omega)).1]; exact hx
    · rw [(s4' _ (by omega)).1]
      exact SR_eq hN (fun b b1 b2 => s4' b (by omega))
theorem p_restore {M : SM} {S sb L B : Nat} {xs : Nat → Int32} (h : Rel M S sb L xs B) (x : Int32) : PairI 98 175 [.int x] M S sb L xs B := by
  obtain ⟨⟨K0, P0, P1, P2, P3, P4, P5, P6⟩, SN, ⟨KH, PH, KR, RG⟩, ⟨KL, SL⟩, ⟨KP, PP, KC⟩, ⟨KD, PD⟩, TQ, TW, MM, ⟨LO1, LO2, LO3, LO4⟩⟩ := id h.1.1
  have one0 : ((1 : Int32) = 0) = False := by decide
  by_cases q : x < 0 ∨ 1 < x
  · refine ⟨-2, M, M, Low.refl _ _, ?_, ?_, h⟩
    · show rn 98 0 [some (.ref S), some (.int x)] [] M = _
      simp only [t98_0, t98_1, t98_4, t98_7, t98_9, t98_10, t98_11, t98_14, t98_15, t98_16, t98_19, t98_22, t98_24, t98_25, t98_26, t98_29, t98_30, t98_33, t98_36, t98_37, t98_40, t98_41, t98_44, t98_45, t98_46, t98_49, t98_52, t98_53, t98_54, t98_57, t98_60, t98_63, t98_66, c_isSlot, r_s, q, cbn_i, ↓reduceIte, not_true_eq_false]
    · show rn 175 0 [some (.ref (S + 148)), some (.int x)] [] M = _
      simp only [t175_0, t175_1, t175_2, t175_3, t175_6, t175_9, t175_11, t175_12, t175_13, t175_16, t175_17, t175_18, t175_21, t175_23, t175_24, t175_25, t175_28, t175_29, t175_32, t175_35, t175_36, t175_37, t175_38, t175_41, t175_42, t175_45, t175_46, t175_49, t175_50, t175_51, c_within, q, cbn_i, ↓reduceIte, not_true_eq_false]
  · obtain ⟨i, hi, rfl⟩ := slot_of q
    obtain ⟨s1, s2, s3, s4⟩ := SL i hi
    have hin : inR (nI i) 2 = True := i_inT hi (by decide)
    obtain ⟨u, v⟩ := h.1.2.2.1 i hi
    by_cases q0 : mI M (S + 153) i = 0
    · rw [q0] at u
      refine ⟨-5, M, M, Low.refl _ _, ?_, ?_, h⟩
      · show rn 98 0 [some (.ref S), some (.int (nI i))] [] M = _
        simp only [t98_0, t98_1, t98_4, t98_7, t98_9, t98_10, t98_11, t98_14, t98_15, t98_16, t98_19, t98_22, t98_24, t98_25, t98_26, t98_29, t98_30, t98_33, t98_36, t98_37, t98_40, t98_41, t98_44, t98_45, t98_46, t98_49, t98_52, t98_53, t98_54, t98_57, t98_60, t98_63, t98_66, c_isSlot, r_s, slot_in hi, cbn_i, ↓reduceIte, one0, not_true_eq_false, not_false_eq_true, K0, P2, KL, s1, s2, va_rf_s, or_true, hin, and_self, nI_c (show i < 2147483648 by omega), u]
      · have q0' : mI M (S + 148 + 5) i = 0 := q0
        show rn 175 0 [some (.ref (S + 148)), some (.int (nI i))] [] M = _
        simp only [t175_0, t175_1, t175_2, t175_3, t175_6, t175_9, t175_11, t175_12, t175_13, t175_16, t175_17, t175_18, t175_21, t175_23, t175_24, t175_25, t175_28, t175_29, t175_32, t175_35, t175_36, t175_37, t175_38, t175_41, t175_42, t175_45, t175_46, t175_49, t175_50, t175_51, c_within, slot_in hi, cbn_i, ↓reduceIte, one0, not_true_eq_false, not_false_eq_true, MM.1, MM.2.2.2.2.2.1, MM.2.2.2.2.2.2.2.2.2.2.2.2.2.2.1, va_rf_s, true_or, hin, and_self, nI_c (show i < 2147483648 by omega), q0']
    · obtain ⟨q1, -⟩ := v.resolve_left q0
      obtain ⟨M1, a1, a2, a3, a4⟩ := c_prepare h
      obtain ⟨-, v1⟩ := a2.1.2.2.1 i hi
      have z153 : mI M1 (S + 153) i = 1 := by rw [(a3.2 (S + 153) (by omega)).1]; exact q1
      obtain ⟨-, n, R, hR, hN⟩ := v1.resolve_left (by rw [z153]; decide)
      obtain ⟨M2, b1, b2, b3⟩ := c_stCopy (M := M1) (s := S + 1) (t := S + 121 + 14 * i) (SN.st a3.1) (s4.st a3.1) (by omega)
      have hS2 := b3 _ _ _ hN
      have hX2 := a2.1.xf (XF.of b2 (by omega))
      obtain ⟨M3, c1, c2, M4, c3, c4, c5, c6⟩ := commit hX2 ((show Prp M1 S B from a4).fr (b2.mono (by omega) (by omega)))
      have e2 : M2.2.2 = M.2.2 := b2.1.trans a3.1
      have e3 : M3.2.2 = M.2.2 := c2.1.trans e2
      have e4 : M4.2.2 = M.2.2 := c5.trans e2
      have hsz : mI M2 (S + 1 + 1) 0 = nI n := hS2.1.1
      have hr := c_rec1 (S := S) (a := nI n) (M := M2) (M3 := M3) (nI_pos (by have := hN.1.2.1; omega)) hX2.1.1.1 hX2.1.1.2.2.1 hX2.1.2.2.1.1 c1
      have hmv := c_moves (M := M4) (a := S + 148 + 4) (b := S + 148 + 1) (la := 740) (lb := 370) (i := 370 * i) (j := 0) (by rw [KK e4]; exact MM.2.2.2.2.2.2.2.2.2.2.2.2.2.1) (by rw [KK e4]; exact MM.2.2.2.2.2.2.2.2.2.2.1) (by omega) (by omega) (by decide) (by decide) (by decide)
      obtain ⟨M5, hM5⟩ : ∃ M5, M5 = sI M4 (S + 148 + 1) (blk (mI M4 (S + 148 + 1)) 0 (mI M4 (S + 148 + 4)) (370 * i) 370) := ⟨_, rfl⟩
      rw [← hM5] at hmv
      have f5 : Fr M4 M5 (S + 149) (S + 150) := by rw [hM5]; exact Fr.sI _ (by omega) (by omega)
      have r149 : ∀ j, j < 370 → mI M5 (S + 149) j = mI M1 (S + 152) (370 * i + j) := fun j hj => by
        have x4 : mI M4 (S + 148 + 4) = mI M1 (S + 152) := by
          rw [(c6 _ (by omega)).1]; exact (b2.2 _ (by omega)).1
        rw [hM5, show S + 149 = S + 148 + 1 from rfl, mI_sI, if_pos rfl, x4]
        have := blk_at (f := mI M4 (S + 148 + 1)) (g := mI M1 (S + 152)) (j := 0) (i := 370 * i) (n := 370) hj
        rw [Nat.zero_add] at this
        exact this
      refine ⟨nI n, M3, M5, ⟨e3, fun b hb => ((c2.2 b (by omega)).1).trans (((b2.2 b (by omega)).1).trans (a3.2 b (by omega)).1)⟩, ?_, ?_, c4.xf (XF.of f5 (by omega)), n, R, hR, ?_⟩
      · show rn 98 0 [some (.ref S), some (.int (nI i))] [] M = _
        have u1 : mI M (S + 120 + 14 * i) 1 = 1 := u.trans q1
        simp only [t98_0, t98_1, t98_4, t98_7, t98_9, t98_10, t98_11, t98_14, t98_15, t98_16, t98_19, t98_22, t98_24, t98_25, t98_26, t98_29, t98_30, t98_33, t98_36, t98_37, t98_40, t98_41, t98_44, t98_45, t98_46, t98_49, t98_52, t98_53, t98_54, t98_57, t98_60, t98_63, t98_66, c_isSlot, r_s, slot_in hi, cbn_i, cbn_v, ↓reduceIte, one0, not_true_eq_false, not_false_eq_true, K0, P0, P1, P2, KL, KH, s1, s2, s3, va_rf_s, or_true, hin, and_self, nI_c (show i < 2147483648 by omega), u1, a1, KK a3.1, PK a3.1, SN.1, b1, KK e2, PK e2, SN.2.1, SN.2.2.2.1.1, hsz, hr]
      · show rn 175 0 [some (.ref (S + 148)), some (.int (nI i))] [] M3 = _
        have q1' : mI M3 (S + 148 + 5) i = 1 := by
          rw [(c2.2 _ (by omega)).1, (b2.2 _ (by omega)).1]; exact z153
        have em : (370 : Int32) * nI i = nI (370 * i) := pk_mul 370 i
        have h0in : inR 0 370 = True := eq_true (by decide)
        have e0 : (0 : Int32).toNatClampNeg = 0 := by decide
        have w5 : mI M5 (S + 148 + 1) 0 = nI n := (r149 0 (by decide)).trans hN.1.2.2.1
        rw [show nI 0 = 0 from rfl] at hmv
        simp only [t175_0, t175_1, t175_2, t175_3, t175_6, t175_9, t175_11, t175_12, t175_13, t175_16, t175_17, t175_18, t175_21, t175_23, t175_24, t175_25, t175_28, t175_29, t175_32, t175_35, t175_36, t175_37, t175_38, t175_41, t175_42, t175_45, t175_46, t175_49, t175_50, t175_51, c_within, slot_in hi, cbn_i, cbn_v, ↓reduceIte, one0, not_true_eq_false, not_false_eq_true, KK e3, PK e3, KK e4, PK e4, MM.1, MM.2.1, MM.2.2.2.2.1, MM.2.2.2.2.2.1, MM.2.2.2.2.2.2.2.2.2.2.1, MM.2.2.2.2.2.2.2.2.2.2.2.2.2.2.1, va_rf_s, true_or, hin, and_self, nI_c (show i < 2147483648 by omega), q1', c3, em, hmv, KK f5.1, PK f5.1, h0in, e0, w5]
      · refine SR_w (SR_eq hS2 (fun b b1 b2 => ?_)) (fun j hj => r149 j hj)
        have x := f5.2 b (by omega)
        have y := c6 b (by omega)
        exact ⟨x.1.trans y.1, x.2.trans y.2⟩
