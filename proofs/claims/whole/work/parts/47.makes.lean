/-! make, write, move, drop -/
theorem KK {M M' : SM} (h : M'.2.2 = M.2.2) : mK M' = mK M := congrArg (fun z => z.2.1) h
theorem PK {M M' : SM} (h : M'.2.2 = M.2.2) : mP M' = mP M := congrArg (fun z => z.1) h
theorem ge_no {e : Int32} (h : e < 0) : ((0 : Int32) ≤ e) = False := eq_false (Int32.not_le.mpr h)
theorem ge_0 : ((0 : Int32) ≤ 0) = True := by decide
theorem p_make {M : SM} {S sb L B : Nat} {xs : Nat → Int32} (h : Rel M S sb L xs B) (hB : B < 2147483648) (x y : Int32) : PairI 12 102 [.int x, .int y] M S sb L xs B := by
  obtain ⟨⟨K0, P0, P1, P2, P3, P4, P5, P6⟩, SN, ⟨KH, PH, KR, RG⟩, ⟨KL, SL⟩, ⟨KP, PP, KC⟩, ⟨KD, PD⟩, TQ, TW, MM, ⟨LO1, LO2, LO3, LO4⟩⟩ := id h.1.1
  obtain ⟨M1, a1, a2, e, M2, M3, b1, b2, b3, b4, blow, c⟩ := wr_core h hB 0 x y y 0 (Or.inl ⟨rfl, rfl, rfl⟩)
  rw [show nI 0 = 0 from rfl] at b1
  refine ⟨e, M3, ?_⟩
  have hc : cl 12 [.ref S, .int x, .int y] M = some (some (.int e), M3) := by
    show rn 12 0 [some (.ref S), some (.int x), some (.int y)] [] M = _
    simp only [t12_0, t12_1, t12_4, t12_5, t12_8, t12_11, t12_12, t12_13, t12_16, t12_17, t12_18, t12_19, t12_22, t12_25, K0, P0, P1, KH, SN.1, va_rf_s, ↓reduceIte, a1, cbn_v, cbn_i, KK a2, PK a2, b1, KK b3, b2]
  rcases c with ⟨c1, c2, c3⟩ | ⟨c1, M4, M5, c2, c3, c4, c5⟩
  · refine ⟨M3, blow, hc, ?_, c3⟩
    show rn 102 0 [some (.ref (S + 148)), some (.int x), some (.int y), none] [] M3 = _
    simp only [t102_0, t102_1, t102_2, t102_3, t102_4, t102_7, t102_8, t102_9, t102_12, t102_13, t102_14, t102_15, t102_18, t102_19, t102_20, t102_21, t102_22, t102_25, KK b4, MM.1, ↓reduceIte, c2, cbn_i, ge_no c1]
  · refine ⟨M5, blow, hc, ?_, c5⟩
    rw [show nI 0 = 0 from rfl] at c4
    show rn 102 0 [some (.ref (S + 148)), some (.int x), some (.int y), none] [] M3 = _
    simp only [t102_0, t102_1, t102_2, t102_3, t102_4, t102_7, t102_8, t102_9, t102_12, t102_13, t102_14, t102_15, t102_18, t102_19, t102_20, t102_21, t102_22, t102_25, KK b4, KK c3, MM.1, ↓reduceIte, c1, c2, c4, cbn_i, cbn_v, ge_0]
theorem p_write {M : SM} {S sb L B : Nat} {xs : Nat → Int32} (h : Rel M S sb L xs B) (hB : B < 2147483648) (x y : Int32) : PairI 31 116 [.int x, .int y] M S sb L xs B := by
  obtain ⟨⟨K0, P0, P1, P2, P3, P4, P5, P6⟩, SN, ⟨KH, PH, KR, RG⟩, ⟨KL, SL⟩, ⟨KP, PP, KC⟩, ⟨KD, PD⟩, TQ, TW, MM, ⟨LO1, LO2, LO3, LO4⟩⟩ := id h.1.1
  obtain ⟨M1, a1, a2, e, M2, M3, b1, b2, b3, b4, blow, c⟩ := wr_core h hB 1 x y 0 y (Or.inr (Or.inr (Or.inl ⟨rfl, rfl, rfl⟩)))
  rw [show nI 1 = 1 from rfl] at b1
  refine ⟨e, M3, ?_⟩
  have hc : cl 31 [.ref S, .int x, .int y] M = some (some (.int e), M3) := by
    show rn 31 0 [some (.ref S), some (.int x), some (.int y)] [] M = _
    simp only [t31_0, t31_1, t31_4, t31_5, t31_8, t31_11, t31_12, t31_13, t31_16, t31_17, t31_18, t31_19, t31_22, t31_25, K0, P0, P1, KH, SN.1, va_rf_s, ↓reduceIte, a1, cbn_v, cbn_i, KK a2, PK a2, b1, KK b3, b2]
  rcases c with ⟨c1, c2, c3⟩ | ⟨c1, M4, M5, c2, c3, c4, c5⟩
  · refine ⟨M3, blow, hc, ?_, c3⟩
    show rn 116 0 [some (.ref (S + 148)), some (.int x), some (.int y), none] [] M3 = _
    simp only [t116_0, t116_1, t116_2, t116_3, t116_4, t116_7, t116_8, t116_9, t116_12, t116_13, t116_14, t116_15, t116_18, t116_19, t116_20, t116_21, t116_22, t116_25, KK b4, MM.1, ↓reduceIte, c2, cbn_i, ge_no c1]
  · refine ⟨M5, blow, hc, ?_, c5⟩
    rw [show nI 1 = 1 from rfl] at c4
    show rn 116 0 [some (.ref (S + 148)), some (.int x), some (.int y), none] [] M3 = _
    simp only [t116_0, t116_1, t116_2, t116_3, t116_4, t116_7, t116_8, t116_9, t116_12, t116_13, t116_14, t116_15, t116_18, t116_19, t116_20, t116_21, t116_22, t116_25, KK b4, KK c3, MM.1, ↓reduceIte, c1, c2, c4, cbn_i, cbn_v, ge_0]
theorem p_move {M : SM} {S sb L B : Nat} {xs : Nat → Int32} (h : Rel M S sb L xs B) (hB : B < 2147483648) (x y : Int32) : PairI 32 117 [.int x, .int y] M S sb L xs B := by
  obtain ⟨⟨K0, P0, P1, P2, P3, P4, P5, P6⟩, SN, ⟨KH, PH, KR, RG⟩, ⟨KL, SL⟩, ⟨KP, PP, KC⟩, ⟨KD, PD⟩, TQ, TW, MM, ⟨LO1, LO2, LO3, LO4⟩⟩ := id h.1.1
  obtain ⟨M1, a1, a2, e, M2, M3, b1, b2, b3, b4, blow, c⟩ := wr_core h hB 2 x y y 0 (Or.inr (Or.inl ⟨rfl, rfl, rfl⟩))
  rw [show nI 2 = 2 from rfl] at b1
  refine ⟨e, M3, ?_⟩
  have hc : cl 32 [.ref S, .int x, .int y] M = some (some (.int e), M3) := by
    show rn 32 0 [some (.ref S), some (.int x), some (.int y)] [] M = _
    simp only [t32_0, t32_1, t32_4, t32_5, t32_8, t32_11, t32_12, t32_13, t32_16, t32_17, t32_18, t32_19, t32_22, t32_25, K0, P0, P1, KH, SN.1, va_rf_s, ↓reduceIte, a1, cbn_v, cbn_i, KK a2, PK a2, b1, KK b3, b2]
  rcases c with ⟨c1, c2, c3⟩ | ⟨c1, M4, M5, c2, c3, c4, c5⟩
  · refine ⟨M3, blow, hc, ?_, c3⟩
    show rn 117 0 [some (.ref (S + 148)), some (.int x), some (.int y), none] [] M3 = _
    simp only [t117_0, t117_1, t117_2, t117_3, t117_4, t117_7, t117_8, t117_9, t117_12, t117_13, t117_14, t117_15, t117_18, t117_19, t117_20, t117_21, t117_22, t117_25, KK b4, MM.1, ↓reduceIte, c2, cbn_i, ge_no c1]
  · refine ⟨M5, blow, hc, ?_, c5⟩
    rw [show nI 2 = 2 from rfl] at c4
    show rn 117 0 [some (.ref (S + 148)), some (.int x), some (.int y), none] [] M3 = _
    simp only [t117_0, t117_1, t117_2, t117_3, t117_4, t117_7, t117_8, t117_9, t117_12, t117_13, t117_14, t117_15, t117_18, t117_19, t117_20, t117_21, t117_22, t117_25, KK b4, KK c3, MM.1, ↓reduceIte, c1, c2, c4, cbn_i, cbn_v, ge_0]
theorem p_drop {M : SM} {S sb L B : Nat} {xs : Nat → Int32} (h : Rel M S sb L xs B) (hB : B < 2147483648) (x : Int32) : PairI 33 118 [.int x] M S sb L xs B := by
  obtain ⟨⟨K0, P0, P1, P2, P3, P4, P5, P6⟩, SN, ⟨KH, PH, KR, RG⟩, ⟨KL, SL⟩, ⟨KP, PP, KC⟩, ⟨KD, PD⟩, TQ, TW, MM, ⟨LO1, LO2, LO3, LO4⟩⟩ := id h.1.1
  obtain ⟨M1, a1, a2, e, M2, M3, b1, b2, b3, b4, blow, c⟩ := wr_core h hB 3 x (-6) 0 0 (Or.inr (Or.inr (Or.inr ⟨rfl, rfl, rfl, rfl⟩)))
  rw [show nI 3 = 3 from rfl] at b1
  refine ⟨e, M3, ?_⟩
  have hc : cl 33 [.ref S, .int x] M = some (some (.int e), M3) := by
    show rn 33 0 [some (.ref S), some (.int x)] [] M = _
    simp only [t33_0, t33_1, t33_4, t33_5, t33_8, t33_11, t33_12, t33_13, t33_16, t33_17, t33_18, t33_20, t33_23, t33_26, K0, P0, P1, KH, SN.1, va_rf_s, ↓reduceIte, a1, cbn_v, cbn_i, KK a2, PK a2, b1, KK b3, b2]
  rcases c with ⟨c1, c2, c3⟩ | ⟨c1, M4, M5, c2, c3, c4, c5⟩
  · refine ⟨M3, blow, hc, ?_, c3⟩
    show rn 118 0 [some (.ref (S + 148)), some (.int x), none] [] M3 = _
    simp only [t118_0, t118_1, t118_2, t118_3, t118_4, t118_7, t118_8, t118_9, t118_12, t118_13, t118_14, t118_15, t118_18, t118_19, t118_20, t118_21, t118_23, t118_26, KK b4, MM.1, ↓reduceIte, c2, cbn_i, ge_no c1]
  · refine ⟨M5, blow, hc, ?_, c5⟩
    rw [show nI 3 = 3 from rfl] at c4
    show rn 118 0 [some (.ref (S + 148)), some (.int x), none] [] M3 = _
    simp only [t118_0, t118_1, t118_2, t118_3, t118_4, t118_7, t118_8, t118_9, t118_12, t118_13, t118_14, t118_15, t118_18, t118_19, t118_20, t118_21, t118_23, t118_26, KK b4, KK c3, MM.1, ↓reduceIte, c1, c2, c4, cbn_i, cbn_v, ge_0]
