/-! the text, as the class reads it -/
def RA (C : SM) (S l : Nat) (T : Nat → Int32) : Prop := mK C (S + 108) = (16, 0) ∧ mP C (S + 108) 0 = some (S + 109) ∧ mK C (S + 109) = (17, 0) ∧ mP C (S + 109) 0 = some (S + 110) ∧ mK C (S + 110) = (1, 80) ∧ l ≤ 80 ∧ mI C (S + 109) 1 = nI l ∧ (∀ j, j < l → mI C (S + 110) j = T j) ∧ (∀ j, j < l → 33 ≤ T j ∧ T j ≤ 126)
theorem RA.fr {C C' : SM} {S l : Nat} {T : Nat → Int32} (h : RA C S l T) (e : C'.2.2 = C.2.2) (h8 : mI C' (S + 109) = mI C (S + 109)) (h9 : mI C' (S + 110) = mI C (S + 110)) : RA C' S l T := by
  unfold RA at *
  rw [KK e, PK e, h8, h9]
  exact h
theorem RA.sI {C : SM} {S l : Nat} {T : Nat → Int32} (h : RA C S l T) (f : Nat → Int32) : RA (sI C (S + 108) f) S l T := h.fr rfl (by rw [mI_sI, if_neg (by omega)]) (by rw [mI_sI, if_neg (by omega)])
/-- the character at a place, 0 behind the end -/
def gT (T : Nat → Int32) (l p : Nat) : Int32 := if p < l then T p else 0
theorem c_codeAt {C : SM} {S l p : Nat} {T : Nat → Int32} (h : RA C S l T) (hp : p ≤ 1000) : cl 83 [.ref (S + 109), .int (nI p)] C = some (some (.int (gT T l p)), C) := by
  obtain ⟨h1, h2, h3, h4, h5, h6, h7, h8, h9⟩ := h
  show rn 83 0 [some (.ref (S + 109)), some (.int (nI p))] [] C = _
  unfold gT
  by_cases q : p < l
  · have hle : ¬ l ≤ p := by omega
    have hin : inR (nI p) 80 = True := i_inT (by omega) (by decide)
    simp only [t83_0, t83_1, t83_4, t83_5, t83_6, t83_9, t83_12, t83_13, t83_16, t83_17, t83_18, t83_21, t83_22, lt0 (show p < 2147483648 by omega), h3, h4, h5, h7, va_rf_s, i_le (show l < 2147483648 by omega) (show p < 2147483648 by omega), hle, q, hin, true_or, and_self, nI_c (show p < 2147483648 by omega), h8 p q, ↓reduceIte]
  · have hle : l ≤ p := by omega
    simp only [t83_0, t83_1, t83_4, t83_5, t83_6, t83_9, t83_12, t83_13, t83_16, t83_17, t83_18, t83_21, t83_22, lt0 (show p < 2147483648 by omega), h3, h7, i_le (show l < 2147483648 by omega) (show p < 2147483648 by omega), hle, q, ↓reduceIte]
theorem c_readSign {C : SM} {S l p : Nat} {T : Nat → Int32} (h : RA C S l T) (hp : p ≤ 1000) (ha : mI C (S + 108) 1 = nI p) (c : Int32) : cl 84 [.ref (S + 108), .int c] C = if gT T l p = c then some (some (.int 1), sI C (S + 108) (va_up (mI C (S + 108)) 1 (nI (p + 1)))) else some (some (.int 0), C) := by
  have hc := c_codeAt h hp
  obtain ⟨h1, h2, h3, -⟩ := h
  show rn 84 0 [some (.ref (S + 108)), some (.int c)] [] C = _
  have z : ((1 : Int32) = 0 ∨ (1 : Int32) = 1) = True := by decide
  have z2 : ((0 : Int32) = 0 ∨ (0 : Int32) = 1) = True := by decide
  by_cases q : gT T l p = c <;> simp only [t84_0, t84_1, t84_4, t84_5, t84_8, t84_11, t84_12, t84_15, t84_16, t84_17, t84_18, t84_19, t84_22, t84_23, t84_24, t84_27, t84_28, h1, h2, h3, ha, va_rf_s, hc, cbn_i, q, n1, or_true, true_or, ↓reduceIte]
theorem c_readFile {C : SM} {S l p : Nat} {T : Nat → Int32} (h : RA C S l T) (hp : p ≤ 1000) (ha : mI C (S + 108) 1 = nI p) : cl 86 [.ref (S + 108)] C = if isF (gT T l p - 97) = true then some (some (.int (gT T l p - 97)), sI C (S + 108) (va_up (mI C (S + 108)) 1 (nI (p + 1)))) else some (some (.int (-6)), C) := by
  have hc := c_codeAt h hp
  obtain ⟨h1, h2, h3, -⟩ := h
  show rn 86 0 [some (.ref (S + 108)), none] [] C = _
  have one0 : ((1 : Int32) = 0) = False := by decide
  cases q : isF (gT T l p - 97) with
  | true =>
    have q2 : (gT T l p - 97 < 0 ∨ 16 ≤ gT T l p - 97) = False := by
      obtain ⟨j, hj, e⟩ := isF_of q
      rw [e]; exact isF_ok hj
    simp only [t86_0, t86_1, t86_4, t86_5, t86_8, t86_11, t86_13, t86_14, t86_15, t86_16, t86_19, t86_22, t86_24, t86_25, t86_26, t86_27, t86_30, t86_31, t86_32, t86_35, t86_36, h1, h2, h3, ha, va_rf_s, hc, c_isFile, cbn_i, q2, one0, n1, not_false_eq_true, ↓reduceIte]
  | false => simp only [t86_0, t86_1, t86_4, t86_5, t86_8, t86_11, t86_13, t86_14, t86_15, t86_16, t86_19, t86_22, t86_24, t86_25, t86_26, t86_27, t86_30, t86_31, t86_32, t86_35, t86_36, h1, h2, h3, ha, va_rf_s, hc, c_isFile, cbn_i, isF_no q, not_true_eq_false, Bool.false_eq_true, ↓reduceIte]
theorem c_file1 {C : SM} {S l p : Nat} {T : Nat → Int32} (h : RA C S l T) (hp : p ≤ 1000) (ha : mI C (S + 108) 1 = nI p) : cl 85 [.ref (S + 108)] C = if isF (gT T l p - 97) = true then some (some (.int 1), sI C (S + 108) (va_up (va_up (mI C (S + 108)) 1 (nI (p + 1))) 3 (gT T l p - 97))) else some (some (.int 0), sI C (S + 108) (va_up (mI C (S + 108)) 3 (-6))) := by
  have hc := c_readFile h hp ha
  obtain ⟨h1, h2, h3, -⟩ := h
  show rn 85 0 [some (.ref (S + 108))] [] C = _
  have z : ((1 : Int32) = 0 ∨ (1 : Int32) = 1) = True := by decide
  have z2 : ((0 : Int32) = 0 ∨ (0 : Int32) = 1) = True := by decide
  cases q : isF (gT T l p - 97) with
  | true =>
    have q2 : (gT T l p - 97 = -6) = False := by
      obtain ⟨j, hj, e⟩ := isF_of q
      rw [e]; exact nI_m6 hj
    rw [q, if_pos rfl] at hc
    simp only [t85_0, t85_1, t85_2, t85_5, t85_8, t85_9, t85_12, t85_14, t85_17, t85_18, t85_21, t85_22, h1, hc, cbn_i, mK_sI, mI_sI, sI_sI, va_up_self, q2, or_true, ↓reduceIte]
  | false =>
    rw [q, if_neg (by decide)] at hc
    simp only [t85_0, t85_1, t85_2, t85_5, t85_8, t85_9, t85_12, t85_14, t85_17, t85_18, t85_21, t85_22, h1, hc, cbn_i, mK_sI, mI_sI, sI_sI, va_up_self, true_or, Bool.false_eq_true, ↓reduceIte]
theorem c_file2 {C : SM} {S l p : Nat} {T : Nat → Int32} (h : RA C S l T) (hp : p ≤ 1000) (ha : mI C (S + 108) 1 = nI p) : cl 87 [.ref (S + 108)] C = if isF (gT T l p - 97) = true then some (some (.int 1), sI C (S + 108) (va_up (va_up (mI C (S + 108)) 1 (nI (p + 1))) 4 (gT T l p - 97))) else some (some (.int 0), sI C (S + 108) (va_up (mI C (S + 108)) 4 (-6))) := by
  have hc := c_readFile h hp ha
  obtain ⟨h1, h2, h3, -⟩ := h
  show rn 87 0 [some (.ref (S + 108))] [] C = _
  have z : ((1 : Int32) = 0 ∨ (1 : Int32) = 1) = True := by decide
  have z2 : ((0 : Int32) = 0 ∨ (0 : Int32) = 1) = True := by decide
  cases q : isF (gT T l p - 97) with
  | true =>
    have q2 : (gT T l p - 97 = -6) = False := by
      obtain ⟨j, hj, e⟩ := isF_of q
      rw [e]; exact nI_m6 hj
    rw [q, if_pos rfl] at hc
    simp only [t87_0, t87_1, t87_2, t87_5, t87_8, t87_9, t87_12, t87_14, t87_17, t87_18, t87_21, t87_22, h1, hc, cbn_i, mK_sI, mI_sI, sI_sI, va_up_self, q2, or_true, ↓reduceIte]
  | false =>
    rw [q, if_neg (by decide)] at hc
    simp only [t87_0, t87_1, t87_2, t87_5, t87_8, t87_9, t87_12, t87_14, t87_17, t87_18, t87_21, t87_22, h1, hc, cbn_i, mK_sI, mI_sI, sI_sI, va_up_self, true_or, Bool.false_eq_true, ↓reduceIte]
def isD (x : Int32) : Bool := decide (¬ (x < 48 ∨ 57 < x))
def dg (x : Int32) : Nat := x.toNatClampNeg - 48
theorem isD_of {x : Int32} (h : isD x = true) : dg x ≤ 9 ∧ x = nI (48 + dg x) ∧ (x < 48 ∨ 57 < x) = False := by
  unfold isD at h
  rw [decide_eq_true_eq] at h
  have c58 : (58 : Int32).toInt = 58 := by decide
  have c57 : (57 : Int32).toInt = 57 := by decide
  have hj : ∃ j, j < 58 ∧ x = nI j := by
    rcases pk_ix x (n := 58) (by decide) with q | q | q
    · exact absurd (Or.inl (Int32.lt_trans q (by decide))) h
    · refine absurd (Or.inr ?_) h
      rw [show nI 58 = (58 : Int32) from rfl, Int32.le_iff_toInt_le, c58] at q
      rw [Int32.lt_iff_toInt_lt, c57]
      omega
    · exact q
  obtain ⟨j, hj, e⟩ := hj
  have h48 : 48 ≤ j := by
    rcases Nat.lt_or_ge j 48 with q | q
    · refine absurd (Or.inl ?_) h
      rw [e, show (48 : Int32) = nI 48 from rfl, i_lt (by omega) (by decide)]
      exact q
    · exact q
  have hd : dg x = j - 48 := by unfold dg; rw [e, nI_c (by omega)]
  exact ⟨by omega, by rw [hd, e, show 48 + (j - 48) = j by omega], eq_false h⟩
theorem isD_no {x : Int32} (h : isD x = false) : (x < 48 ∨ 57 < x) = True := by
  unfold isD at h
  rw [decide_eq_false_iff_not, Classical.not_not] at h
  exact eq_true h
/-- a number at a place: its value, the place behind it -/
def rdN (g : Nat → Int32) (p : Nat) : Option (Nat × Nat) :=
  if isD (g p) = true then
    if g p = 48 then some (0, p + 1)
    else if isD (g (p + 1)) = true then
      if isD (g (p + 2)) = true then some (10 * (10 * dg (g p) + dg (g (p + 1))) + dg (g (p + 2)), p + 3)
      else some (10 * dg (g p) + dg (g (p + 1)), p + 2)
    else some (dg (g p), p + 1)
  else none
theorem nI_s48 (x : Nat) : nI (48 + x) - 48 = nI x := by
  rw [show nI (48 + x) = 48 + nI x from (nI_add 48 x).symm, Int32.add_comm, Int32.add_sub_cancel]
theorem num_v {v : Nat} {x : Int32} (h : isD x = true) : nI v * 10 + x - 48 = nI (10 * v + dg x) := by
  have e : x = nI (48 + dg x) := (isD_of h).2.1
  generalize dg x = d at *
  subst e
  rw [show (10 : Int32) = nI 10 from rfl, pk_mul, nI_add, show v * 10 + (48 + d) = 48 + (10 * v + d) by omega, nI_s48]
theorem c_isDigit (x : Int32) (M : SM) : cl 90 [.int x] M = some (some (.int (if x < 48 ∨ 57 < x then 0 else 1)), M) := by
  show rn 90 0 [some (.int x)] [] M = _
  by_cases h1 : x < 48 <;> by_cases h2 : 57 < x <;> simp [t90_0, t90_1, t90_3, t90_6, t90_7, t90_9, t90_12, t90_13, t90_16, t90_17, h1, h2]
theorem c_digit {C : SM} {S l q i : Nat} {T : Nat → Int32} {x : Int32} (h : RA C S l T) (hq : q ≤ 1000) (ha : mI C (S + 108) 1 = nI q) (hi : i < 3) : rn 89 16 [some (.ref (S + 108)), some (.int x), some (.int (nI i))] [] C = if isD (gT T l q) = true then rn 89 16 [some (.ref (S + 108)), some (.int ((if x < 0 then 0 else x) * 10 + gT T l q - 48)), some (.int (nI (i + 1)))] [] (sI C (S + 108) (va_up (mI C (S + 108)) 1 (nI (q + 1)))) else some (some (.int x), C) := by
  have hc := c_codeAt h hq
  obtain ⟨h1, h2, h3, -⟩ := h
  have one0 : ((1 : Int32) = 0) = False := by decide
  have h3' : ((3 : Int32) ≤ nI i) = False := by
    rw [show (3 : Int32) = nI 3 from rfl, i_le (by decide) (by omega)]
    exact eq_false (by omega)
  conv => lhs; rw [t89_16]
  cases z : isD (gT T l q) with
  | true =>
    obtain ⟨d1, d2, d3⟩ := isD_of z
    simp only [t89_17, t89_18, t89_21, t89_22, t89_25, t89_26, t89_29, t89_32, t89_35, t89_38, t89_39, t89_40, t89_43, t89_45, t89_46, t89_47, t89_50, t89_51, t89_54, t89_57, t89_58, t89_60, t89_61, t89_62, t89_63, t89_64, t89_67, t89_68, t89_69, t89_72, t89_75, h3', h1, h2, h3, ha, va_rf_s, hc, cbn_i, c_isDigit, d3, one0, c_max, n1, ↓reduceIte]
  | false => simp only [t89_0, t89_1, t89_3, t89_6, t89_9, t89_10, t89_11, t89_13, t89_14, t89_15, t89_17, t89_18, t89_21, t89_22, t89_25, t89_26, t89_29, t89_32, t89_35, t89_38, t89_39, t89_40, t89_43, t89_45, t89_46, t89_47, t89_50, t89_51, t89_54, t89_57, t89_58, t89_60, t89_61, t89_62, t89_63, t89_64, t89_67, t89_68, t89_69, t89_72, t89_75, t89_78, t89_79, h3', h1, h2, h3, ha, va_rf_s, hc, cbn_i, c_isDigit, isD_no z, Bool.false_eq_true, ↓reduceIte]
theorem c_digits3 {C : SM} {S : Nat} {x : Int32} : rn 89 16 [some (.ref (S + 108)), some (.int x), some (.int (nI 3))] [] C = some (some (.int x), C) := by
  have e : ((3 : Int32) ≤ nI 3) = True := by decide
  rw [t89_16]
  simp only [t89_0, t89_1, t89_3, t89_6, t89_9, t89_10, t89_11, t89_13, t89_14, t89_15, t89_17, t89_18, t89_21, t89_22, t89_25, t89_26, t89_29, t89_32, t89_35, t89_38, t89_39, t89_40, t89_43, t89_45, t89_46, t89_47, t89_50, t89_51, t89_54, t89_57, t89_58, t89_60, t89_61, t89_62, t89_63, t89_64, t89_67, t89_68, t89_69, t89_72, t89_75, t89_78, t89_79, e, ↓reduceIte]
theorem c_readNum {C : SM} {S l p : Nat} {T : Nat → Int32} (h : RA C S l T) (hp : p ≤ 900) (ha : mI C (S + 108) 1 = nI p) : cl 89 [.ref (S + 108)] C = match rdN (gT T l) p with | some (v, q) => some (some (.int (nI v)), sI C (S + 108) (va_up (mI C (S + 108)) 1 (nI q))) | none => some (some (.int (-6)), C) := by
  have h1 := h.1
  show rn 89 0 [some (.ref (S + 108)), none, none] [] C = _
  have one0 : ((1 : Int32) = 0) = False := by decide
  have hs := c_readSign h (by omega) ha 48
  by_cases z : gT T l p = 48
  · have e : rdN (gT T l) p = some (0, p + 1) := by
      unfold rdN
      rw [if_pos (by rw [z]; decide), if_pos z]
    rw [if_pos z] at hs
    rw [e]
    simp only [t89_0, t89_1, t89_3, t89_6, t89_9, t89_10, t89_11, t89_13, t89_14, t89_15, t89_17, t89_18, t89_21, t89_22, t89_25, t89_26, t89_29, t89_32, t89_35, t89_38, t89_39, t89_40, t89_43, t89_45, t89_46, t89_47, t89_50, t89_51, t89_54, t89_57, t89_58, t89_60, t89_61, t89_62, t89_63, t89_64, t89_67, t89_68, t89_69, t89_72, t89_75, t89_78, t89_79, h1, hs, cbn_i, one0, ↓reduceIte]
    rfl
  · rw [if_neg z] at hs
    have start : ∀ X, rn 89 16 [some (.ref (S + 108)), some (.int (-6)), some (.int (nI 0))] [] C = X → rn 89 0 [some (.ref (S + 108)), none, none] [] C = X := by
      intro X hX
      rw [show nI 0 = 0 from rfl] at hX
      simp only [t89_0, t89_1, t89_3, t89_6, t89_9, t89_10, t89_11, t89_13, t89_14, t89_15, t89_17, t89_18, t89_21, t89_22, t89_25, t89_26, t89_29, t89_32, t89_35, t89_38, t89_39, t89_40, t89_43, t89_45, t89_46, t89_47, t89_50, t89_51, t89_54, t89_57, t89_58, t89_60, t89_61, t89_62, t89_63, t89_64, t89_67, t89_68, t89_69, t89_72, t89_75, t89_78, t89_79, h1, hs, cbn_i, ↓reduceIte]
      exact hX
    apply start
    rw [c_digit h (by omega) ha (by decide)]
    have m6 : ((-6 : Int32) < 0) = True := by decide
    cases d0 : isD (gT T l p) with
    | false =>
      have e : rdN (gT T l) p = none := by
        unfold rdN
        rw [if_neg (by rw [d0]; decide)]
      rw [if_neg (by decide), e]
    | true =>
      rw [if_pos rfl]
      simp only [m6, ↓reduceIte]
      have hv := num_v (v := 0) d0
      rw [show nI 0 = 0 from rfl, show 10 * 0 + dg (gT T l p) = dg (gT T l p) by omega] at hv
      rw [hv]
      have b0 := (isD_of d0).1
      have n0 : (nI (dg (gT T l p)) < 0) = False := lt0 (by omega)
      have hA := h.sI (va_up (mI C (S + 108)) 1 (nI (p + 1)))
      have hr1 : mI (sI C (S + 108) (va_up (mI C (S + 108)) 1 (nI (p + 1)))) (S + 108) 1 = nI (p + 1) := by rw [mI_sI, if_pos rfl, va_up_self]
      rw [c_digit hA (by omega) hr1 (by decide)]
      cases d1 : isD (gT T l (p + 1)) with
      | false =>
        have e : rdN (gT T l) p = some (dg (gT T l p), p + 1) := by
          unfold rdN
          rw [if_pos d0, if_neg z, if_neg (by rw [d1]; decide)]
        rw [if_neg (by decide), e]
      | true =>
        rw [if_pos rfl]
        simp only [n0, ↓reduceIte, mI_sI, sI_sI, va_up2]
        rw [num_v d1]
        have b1 := (isD_of d1).1
        have n1' : (nI (10 * dg (gT T l p) + dg (gT T l (p + 1))) < 0) = False := lt0 (by omega)
        have hA := h.sI (va_up (mI C (S + 108)) 1 (nI (p + 1 + 1)))
        have hr1 : mI (sI C (S + 108) (va_up (mI C (S + 108)) 1 (nI (p + 1 + 1)))) (S + 108) 1 = nI (p + 1 + 1) := by rw [mI_sI, if_pos rfl, va_up_self]
        rw [c_digit hA (by omega) hr1 (by decide)]
        cases d2 : isD (gT T l (p + 1 + 1)) with
        | false =>
          have e : rdN (gT T l) p = some (10 * dg (gT T l p) + dg (gT T l (p + 1)), p + 2) := by
            unfold rdN
            rw [if_pos d0, if_neg z, if_pos d1, if_neg (by rw [show p + 2 = p + 1 + 1 from rfl, d2]; decide)]
          rw [if_neg (by decide), e]
        | true =>
          rw [if_pos rfl]
          simp only [n1', ↓reduceIte, mI_sI, sI_sI, va_up2]
          rw [num_v d2, c_digits3]
          have e : rdN (gT T l) p = some (10 * (10 * dg (gT T l p) + dg (gT T l (p + 1))) + dg (gT T l (p + 2)), p + 3) := by
            unfold rdN
            rw [if_pos d0, if_neg z, if_pos d1, if_pos d2]
          rw [e]
theorem rdN_v {g : Nat → Int32} {p v q : Nat} (h : rdN g p = some (v, q)) : v ≤ 999 ∧ p < q ∧ q ≤ p + 3 ∧ ∀ i, p ≤ i → i < q → isD (g i) = true := by
  unfold rdN at h
  split at h
  · rename_i d0
    have b0 := (isD_of d0).1
    split at h
    · cases h
      exact ⟨by omega, by omega, by omega, fun i h1 h2 => by rw [show i = p by omega]; exact d0⟩
    · split at h
      · rename_i d1
        have b1 := (isD_of d1).1
        split at h
        · rename_i d2
          have b2 := (isD_of d2).1
          cases h
          refine ⟨by omega, by omega, by omega, fun i h1 h2 => ?_⟩
          rcases (show i = p ∨ i = p + 1 ∨ i = p + 2 by omega) with rfl | rfl | rfl
          · exact d0
          · exact d1
          · exact d2
        · cases h
          refine ⟨by omega, by omega, by omega, fun i h1 h2 => ?_⟩
          rcases (show i = p ∨ i = p + 1 by omega) with rfl | rfl
          · exact d0
          · exact d1
      · cases h
        exact ⟨by omega, by omega, by omega, fun i h1 h2 => by rw [show i = p by omega]; exact d0⟩
  · cases h
theorem n_m6' {v : Nat} (h : v ≤ 999) : (nI v = -6) = False := by
  rcases n_m6 v with q | q
  · exact q
  · omega
theorem c_num1 {C : SM} {S l p : Nat} {T : Nat → Int32} (h : RA C S l T) (hp : p ≤ 900) (ha : mI C (S + 108) 1 = nI p) : cl 91 [.ref (S + 108)] C = match rdN (gT T l) p with | some (v, q) => some (some (.int 1), sI C (S + 108) (va_up (va_up (mI C (S + 108)) 1 (nI q)) 3 (nI v))) | none => some (some (.int 0), sI C (S + 108) (va_up (mI C (S + 108)) 3 (-6))) := by
  have hc := c_readNum h hp ha
  have h1 := h.1
  show rn 91 0 [some (.ref (S + 108))] [] C = _
  have z : ((1 : Int32) = 0 ∨ (1 : Int32) = 1) = True := by decide
  have z2 : ((0 : Int32) = 0 ∨ (0 : Int32) = 1) = True := by decide
  cases q : rdN (gT T l) p with
  | none =>
    rw [q] at hc
    simp only [t91_0, t91_1, t91_2, t91_5, t91_8, t91_9, t91_12, t91_14, t91_17, t91_18, t91_21, t91_22, h1, hc, cbn_i, mK_sI, mI_sI, sI_sI, va_up_self, true_or, ↓reduceIte]
  | some r =>
    obtain ⟨v, qq⟩ := r
    rw [q] at hc
    have hv := n_m6' (rdN_v q).1
    simp only [t91_0, t91_1, t91_2, t91_5, t91_8, t91_9, t91_12, t91_14, t91_17, t91_18, t91_21, t91_22, h1, hc, cbn_i, mK_sI, mI_sI, sI_sI, va_up_self, hv, or_true, ↓reduceIte]
theorem c_num2 {C : SM} {S l p : Nat} {T : Nat → Int32} (h : RA C S l T) (hp : p ≤ 900) (ha : mI C (S + 108) 1 = nI p) : cl 88 [.ref (S + 108)] C = match rdN (gT T l) p with | some (v, q) => some (some (.int 1), sI C (S + 108) (va_up (va_up (mI C (S + 108)) 1 (nI q)) 4 (nI v))) | none => some (some (.int 0), sI C (S + 108) (va_up (mI C (S + 108)) 4 (-6))) := by
  have hc := c_readNum h hp ha
  have h1 := h.1
  show rn 88 0 [some (.ref (S + 108))] [] C = _
  have z : ((1 : Int32) = 0 ∨ (1 : Int32) = 1) = True := by decide
  have z2 : ((0 : Int32) = 0 ∨ (0 : Int32) = 1) = True := by decide
  cases q : rdN (gT T l) p with
  | none =>
    rw [q] at hc
    simp only [t88_0, t88_1, t88_2, t88_5, t88_8, t88_9, t88_12, t88_14, t88_17, t88_18, t88_21, t88_22, h1, hc, cbn_i, mK_sI, mI_sI, sI_sI, va_up_self, true_or, ↓reduceIte]
  | some r =>
    obtain ⟨v, qq⟩ := r
    rw [q] at hc
    have hv := n_m6' (rdN_v q).1
    simp only [t88_0, t88_1, t88_2, t88_5, t88_8, t88_9, t88_12, t88_14, t88_17, t88_18, t88_21, t88_22, h1, hc, cbn_i, mK_sI, mI_sI, sI_sI, va_up_self, hv, or_true, ↓reduceIte]
