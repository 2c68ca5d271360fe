/-! the text, as the reference reads it: its small readers -/
def RB (N : SM) (m l : Nat) (T : Nat → Int32) : Prop := ModAt N m ∧ l ≤ 80 ∧ mI N m 7 = nI l ∧ (∀ j, j < l → mI N (m + 6) j = T j) ∧ (∀ j, j < l → 33 ≤ T j ∧ T j ≤ 126)
theorem RB.sI {N : SM} {m l : Nat} {T : Nat → Int32} (h : RB N m l T) {f : Nat → Int32} (hf : f 7 = mI N m 7) : RB (sI N m f) m l T := by
  obtain ⟨a, b, c, d, e⟩ := h
  refine ⟨a.sI _ _, b, ?_, ?_, e⟩
  · rw [mI_sI, if_pos rfl, hf]; exact c
  · rw [mI_sI, if_neg (by omega)]; exact d
/-- the character at a place, -1 behind the end -/
def hT (T : Nat → Int32) (l p : Nat) : Int32 := if p < l then T p else -1
theorem hg_eq {T : Nat → Int32} {l p : Nat} {c : Int32} (h0 : ¬ c = 0) (h1 : ¬ c = -1) : (hT T l p = c) = (gT T l p = c) := by
  unfold hT gT
  by_cases q : p < l
  · simp only [q, ↓reduceIte]
  · simp only [q, ↓reduceIte]
    exact propext ⟨fun z => absurd z.symm h1, fun z => absurd z.symm h0⟩
theorem hg_in {T : Nat → Int32} {l p : Nat} (h : p < l) : hT T l p = gT T l p := by
  unfold hT gT
  rw [if_pos h, if_pos h]
theorem g_in {T : Nat → Int32} {l p : Nat} (h : ¬ gT T l p = 0) : p < l := by
  rcases Nat.lt_or_ge p l with q | q
  · exact q
  · exact absurd (show gT T l p = 0 from if_neg (by omega)) h
theorem hg_F {T : Nat → Int32} {l p : Nat} : isF (hT T l p - 97) = isF (gT T l p - 97) ∧ (isF (gT T l p - 97) = true → p < l) := by
  by_cases q : p < l
  · rw [hg_in q]; exact ⟨rfl, fun _ => q⟩
  · unfold hT gT
    rw [if_neg q, if_neg q]
    exact ⟨by decide, fun z => absurd z (by decide)⟩
theorem hg_D {T : Nat → Int32} {l p : Nat} : isD (hT T l p) = isD (gT T l p) ∧ (isD (gT T l p) = true → p < l) := by
  by_cases q : p < l
  · rw [hg_in q]; exact ⟨rfl, fun _ => q⟩
  · unfold hT gT
    rw [if_neg q, if_neg q]
    exact ⟨by decide, fun z => absurd z (by decide)⟩
theorem m_char {N : SM} {m l p : Nat} {T : Nat → Int32} (h : RB N m l T) (hp : p ≤ 1000) : cl 166 [.ref m, .int (nI p)] N = some (some (.int (hT T l p)), N) := by
  obtain ⟨hm, h6, h7, h8, h9⟩ := h
  show rn 166 0 [some (.ref m), some (.int (nI p))] [] N = _
  unfold hT
  by_cases q : p < l
  · have hle : ¬ l ≤ p := by omega
    have hin : inR (nI p) 80 = True := i_inT (by omega) (by decide)
    simp only [t166_0, t166_1, t166_2, t166_5, t166_8, t166_9, t166_12, t166_13, t166_14, t166_17, t166_18, hm.1, hm.2.2.2.2.2.2.1, hm.2.2.2.2.2.2.2.2.2.2.2.2.2.2.2.1, h7, va_rf_s, i_le (show l < 2147483648 by omega) (show p < 2147483648 by omega), hle, q, hin, true_or, and_self, nI_c (show p < 2147483648 by omega), h8 p q, ↓reduceIte]
  · have hle : l ≤ p := by omega
    simp only [t166_0, t166_1, t166_2, t166_5, t166_8, t166_9, t166_12, t166_13, t166_14, t166_17, t166_18, hm.1, h7, i_le (show l < 2147483648 by omega) (show p < 2147483648 by omega), hle, q, ↓reduceIte]
theorem m_takes {N : SM} {m l p : Nat} {T f : Nat → Int32} (h : RB N m l T) (hf : f 7 = mI N m 7) (hp : p ≤ 1000) (ha : f 11 = nI p) {c : Int32} (h0 : ¬ c = 0) (h1 : ¬ c = -1) : cl 168 [.ref m, .int c] (sI N m f) = if gT T l p = c then some (some (.int 1), sI N m (va_up f 11 (nI (p + 1)))) else some (some (.int 0), sI N m f) := by
  have hc := m_char (h.sI hf) hp
  have hm := h.1
  show rn 168 0 [some (.ref m), some (.int c), none] [] (sI N m f) = _
  have one0 : ((1 : Int32) = 0) = False := by decide
  have he := hg_eq (T := T) (l := l) (p := p) h0 h1
  have hid : va_up f 11 (nI p) = f := by rw [← ha]; exact va_up_id _ _
  by_cases q : gT T l p = c
  · simp only [t168_0, t168_1, t168_2, t168_5, t168_8, t168_9, t168_12, t168_13, t168_16, t168_17, t168_18, t168_19, t168_20, t168_23, t168_24, t168_27, t168_28, t168_31, t168_32, t168_33, t168_36, t168_37, mK_sI, mI_sI, sI_sI, hm.1, ha, hc, cbn_i, he, q, one0, n1, or_true, not_true_eq_false, ↓reduceIte]
  · simp only [t168_0, t168_1, t168_2, t168_5, t168_8, t168_9, t168_12, t168_13, t168_16, t168_17, t168_18, t168_19, t168_20, t168_23, t168_24, t168_27, t168_28, t168_31, t168_32, t168_33, t168_36, t168_37, mK_sI, mI_sI, sI_sI, hm.1, ha, hc, cbn_i, he, q, true_or, not_false_eq_true, ↓reduceIte, Int32.add_zero, hid]
theorem m_takeFile {N : SM} {m l p : Nat} {T f : Nat → Int32} (h : RB N m l T) (hf : f 7 = mI N m 7) (hp : p ≤ 1000) (ha : f 11 = nI p) : cl 167 [.ref m] (sI N m f) = if isF (gT T l p - 97) = true then some (some (.int (gT T l p - 97)), sI N m (va_up f 11 (nI (p + 1)))) else some (some (.int (-1)), sI N m f) := by
  have hc := m_char (h.sI hf) hp
  have hm := h.1
  show rn 167 0 [some (.ref m), none] [] (sI N m f) = _
  have one0 : ((1 : Int32) = 0) = False := by decide
  obtain ⟨e1, e2⟩ := hg_F (T := T) (l := l) (p := p)
  cases q : isF (gT T l p - 97) with
  | true =>
    have e3 := hg_in (T := T) (e2 q)
    have q2 : (gT T l p - 97 < 0 ∨ 15 < gT T l p - 97) = False := by
      rw [mFileEq]
      obtain ⟨j, hj, e⟩ := isF_of q
      rw [e]; exact isF_ok hj
    simp only [t167_0, t167_1, t167_2, t167_5, t167_8, t167_10, t167_11, t167_12, t167_13, t167_16, t167_19, t167_20, t167_21, t167_22, t167_23, t167_26, t167_27, t167_28, t167_31, t167_32, mK_sI, mI_sI, sI_sI, hm.1, ha, hc, cbn_i, e3, c_mFile, q2, one0, n1, not_false_eq_true, ↓reduceIte]
  | false =>
    rw [q] at e1
    have q2 : (hT T l p - 97 < 0 ∨ 15 < hT T l p - 97) = True := by rw [mFileEq]; exact isF_no e1
    simp only [t167_0, t167_1, t167_2, t167_5, t167_8, t167_10, t167_11, t167_12, t167_13, t167_16, t167_19, t167_20, t167_21, t167_22, t167_23, t167_26, t167_27, t167_28, t167_31, t167_32, mK_sI, mI_sI, sI_sI, hm.1, ha, hc, cbn_i, c_mFile, q2, not_true_eq_false, Bool.false_eq_true, ↓reduceIte]
theorem m_digit {N : SM} {m l q w : Nat} {T f : Nat → Int32} {x : Int32} (h : RB N m l T) (hf : f 7 = mI N m 7) (hq : q ≤ 900) (ha : f 11 = nI q) (hd : isD (gT T l q) = true) (hw : (if 0 ≤ x then 10 * x else 0) + gT T l q - 48 = nI w) (hw2 : w < 1000) :
    rn 169 18 [some (.ref m), some (.int x), some (.int 1)] [] (sI N m f) = rn 169 18 [some (.ref m), some (.int (nI w)), some (.int (if 0 < w ∧ w < 100 ∧ isD (gT T l (q + 1)) = true then 1 else 0))] [] (sI N m (va_up f 11 (nI (q + 1)))) := by
  have hc := m_char (h.sI hf) (p := q) (by omega)
  have hc2 := m_char (h.sI (f := va_up f 11 (nI (q + 1))) (by rw [va_up_ne _ _ (by decide)]; exact hf)) (p := q + 1) (by omega)
  have hm := h.1
  have one0 : ((1 : Int32) = 0) = False := by decide
  have e3 := hg_in (T := T) (hg_D.2 hd)
  have w0 : (nI w ≤ 0) = (w ≤ 0) := i_le (b := 0) (by omega) (by decide)
  have w100 : ((100 : Int32) ≤ nI w) = (100 ≤ w) := i_le (a := 100) (by decide) (by omega)
  have sel : ∀ X Y : Out, (if 0 ≤ x then X else Y) = (if 0 ≤ x then X else Y) := fun _ _ => rfl
  conv => lhs; rw [t169_18]
  by_cases x0 : 0 ≤ x <;> simp only [x0, ↓reduceIte] at hw <;>
    (simp only [t169_19, t169_22, t169_23, t169_26, t169_27, t169_30, t169_32, t169_33, t169_34, t169_35, t169_36, t169_39, t169_42, t169_43, t169_45, t169_46, t169_47, t169_48, t169_49, t169_52, t169_53, t169_54, mK_sI, mI_sI, sI_sI, hm.1, ha, hc, cbn_i, e3, one0, x0, hw, n1, ↓reduceIte]
     by_cases a0 : w ≤ 0
     · have : ¬ (0 < w ∧ w < 100 ∧ isD (gT T l (q + 1)) = true) := fun z => by omega
       simp only [t169_57, t169_58, t169_61, t169_62, t169_64, t169_67, t169_68, t169_69, t169_72, t169_75, t169_77, t169_79, t169_82, t169_85, t169_86, t169_89, t169_90, t169_91, w0, a0, this, ↓reduceIte]
     · by_cases a1 : 100 ≤ w
       · have : ¬ (0 < w ∧ w < 100 ∧ isD (gT T l (q + 1)) = true) := fun z => by omega
         simp only [t169_57, t169_58, t169_61, t169_62, t169_64, t169_67, t169_68, t169_69, t169_72, t169_75, t169_77, t169_79, t169_82, t169_85, t169_86, t169_89, t169_90, t169_91, w0, w100, a0, a1, this, ↓reduceIte]
       · have e1 := (hg_D (T := T) (l := l) (p := q + 1)).1
         cases d : isD (gT T l (q + 1)) with
         | true =>
           rw [d] at e1
           have : (0 < w ∧ w < 100 ∧ true = true) := ⟨by omega, by omega, rfl⟩
           simp only [t169_57, t169_58, t169_61, t169_62, t169_64, t169_67, t169_68, t169_69, t169_72, t169_75, t169_77, t169_79, t169_82, t169_85, t169_86, t169_89, t169_90, t169_91, mK_sI, mI_sI, hm.1, va_up_self, hc2, c_within, cbn_i, (isD_of e1).2.2, one0, w0, w100, a0, a1, this, and_self, ↓reduceIte]
         | false =>
           rw [d] at e1
           simp only [t169_57, t169_58, t169_61, t169_62, t169_64, t169_67, t169_68, t169_69, t169_72, t169_75, t169_77, t169_79, t169_82, t169_85, t169_86, t169_89, t169_90, t169_91, mK_sI, mI_sI, hm.1, va_up_self, hc2, c_within, cbn_i, isD_no e1, w0, w100, a0, a1, Bool.false_eq_true, and_false, ↓reduceIte])
theorem m_stop {N : SM} {m : Nat} {x : Int32} : rn 169 18 [some (.ref m), some (.int x), some (.int 0)] [] N = some (some (.int x), N) := by
  rw [t169_18]
  simp only [t169_0, t169_1, t169_2, t169_3, t169_4, t169_7, t169_10, t169_12, t169_14, t169_17, t169_19, t169_22, t169_23, t169_26, t169_27, t169_30, t169_32, t169_33, t169_34, t169_35, t169_36, t169_39, t169_42, t169_43, t169_45, t169_46, t169_47, t169_48, t169_49, t169_52, t169_53, t169_54, t169_57, t169_58, t169_61, t169_62, t169_64, t169_67, t169_68, t169_69, t169_72, t169_75, t169_77, t169_79, t169_82, t169_85, t169_86, t169_89, t169_90, t169_91, t169_94, t169_95, ↓reduceIte]
theorem m_takeNum {N : SM} {m l p : Nat} {T f : Nat → Int32} (h : RB N m l T) (hf : f 7 = mI N m 7) (hp : p ≤ 800) (ha : f 11 = nI p) : cl 169 [.ref m] (sI N m f) = match rdN (gT T l) p with | some (v, q) => some (some (.int (nI v)), sI N m (va_up f 11 (nI q))) | none => some (some (.int (-1)), sI N m f) := by
  have hc := m_char (h.sI hf) (p := p) (by omega)
  have hm := h.1
  have one0 : ((1 : Int32) = 0) = False := by decide
  have e1 := (hg_D (T := T) (l := l) (p := p)).1
  show rn 169 0 [some (.ref m), none, none] [] (sI N m f) = _
  have f7 : ∀ v, va_up f 11 v 7 = mI N m 7 := fun v => (va_up_ne _ _ (by decide)).trans hf
  cases d0 : isD (gT T l p) with
  | false =>
    have e : rdN (gT T l) p = none := by
      unfold rdN
      rw [if_neg (by rw [d0]; decide)]
    rw [d0] at e1
    rw [e]
    simp only [t169_0, t169_1, t169_2, t169_3, t169_4, t169_7, t169_10, t169_12, t169_14, t169_17, mK_sI, mI_sI, hm.1, ha, hc, c_within, cbn_i, isD_no e1, ↓reduceIte]
    rw [m_stop]
  | true =>
    rw [d0] at e1
    have b0 := (isD_of d0).1
    have hstart : rn 169 0 [some (.ref m), none, none] [] (sI N m f) = rn 169 18 [some (.ref m), some (.int (-1)), some (.int 1)] [] (sI N m f) := by
      simp only [t169_0, t169_1, t169_2, t169_3, t169_4, t169_7, t169_10, t169_12, t169_14, t169_17, mK_sI, mI_sI, hm.1, ha, hc, c_within, cbn_i, (isD_of e1).2.2, ↓reduceIte]
    rw [hstart]
    have hv0 : (if (0 : Int32) ≤ -1 then 10 * (-1 : Int32) else 0) + gT T l p - 48 = nI (dg (gT T l p)) := by
      rw [if_neg (by decide)]
      have := num_v (v := 0) d0
      rw [show nI 0 = 0 from rfl, show 10 * 0 + dg (gT T l p) = dg (gT T l p) by omega] at this
      exact this
    rw [m_digit h hf (by omega) ha d0 hv0 (by omega)]
    have hvn : ∀ (v : Nat) (x : Int32), v ≤ 100 → isD x = true → (if (0 : Int32) ≤ nI v then 10 * nI v else 0) + x - 48 = nI (10 * v + dg x) := by
      intro v x hv hx
      rw [if_pos (nI_pos' (by omega)), show (10 : Int32) * nI v = nI v * 10 from Int32.mul_comm _ _]
      exact num_v hx
    by_cases z : gT T l p = 48
    · have e : rdN (gT T l) p = some (0, p + 1) := by
        unfold rdN
        rw [if_pos d0, if_pos z]
      have dz : dg (gT T l p) = 0 := by rw [z]; decide
      rw [e, dz, if_neg (by omega), m_stop]
    · have dz : 0 < dg (gT T l p) := by
        rcases Nat.eq_zero_or_pos (dg (gT T l p)) with y | y
        · have := (isD_of d0).2.1
          rw [y] at this
          exact absurd this z
        · exact y
      cases d1 : isD (gT T l (p + 1)) with
      | false =>
        have e : rdN (gT T l) p = some (dg (gT T l p), p + 1) := by
          unfold rdN
          rw [if_pos d0, if_neg z, if_neg (by rw [d1]; decide)]
        rw [e, if_neg (by simp), m_stop]
      | true =>
        have b1 := (isD_of d1).1
        rw [if_pos ⟨dz, by omega, rfl⟩]
        rw [m_digit h (f7 _) (by omega) (va_up_self _ _ _) d1 (hvn _ _ (by omega) d1) (by omega), va_up2]
        cases d2 : isD (gT T l (p + 1 + 1)) with
        | false =>
          have e : rdN (gT T l) p = some (10 * dg (gT T l p) + dg (gT T l (p + 1)), p + 2) := by
            unfold rdN
            rw [if_pos d0, if_neg z, if_pos d1, if_neg (by rw [show p + 2 = p + 1 + 1 from rfl, d2]; decide)]
          rw [e, if_neg (by simp), m_stop]
        | true =>
          have b2 := (isD_of d2).1
          rw [if_pos ⟨by omega, by omega, rfl⟩]
          rw [m_digit h (f7 _) (by omega) (va_up_self _ _ _) d2 (hvn _ _ (by omega) d2) (by omega), va_up2]
          have e : rdN (gT T l) p = some (10 * (10 * dg (gT T l p) + dg (gT T l (p + 1))) + dg (gT T l (p + 2)), p + 3) := by
            unfold rdN
            rw [if_pos d0, if_neg z, if_pos d1, if_pos d2]
          rw [e, if_neg (by omega), m_stop]
