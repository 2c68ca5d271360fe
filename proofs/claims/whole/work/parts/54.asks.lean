/-! what is asked: the reference's walks -/
theorem Rel.q {M M' : SM} {S sb L B : Nat} {xs : Nat → Int32} (h : Rel M S sb L xs B) (hF : XF M M' S) (he : ∀ b, S + 2 ≤ b → b < S + 14 → Same M M' b) (hw : mI M' (S + 149) = mI M (S + 149)) : Rel M' S sb L xs B := by
  obtain ⟨hX, n, R, hR, hN⟩ := h
  refine ⟨hX.xf hF, n, R, hR, ?_⟩
  rw [hw]
  exact SR_eq hN (fun b b1 b2 => he b (by omega) (by omega))
theorem Rel.flM {M : SM} {S sb L B : Nat} {xs : Nat → Int32} (h : Rel M S sb L xs B) (n : Nat) : Rel (flM M (S + 148) n) S sb L xs B :=
  h.q (OpF.flM M (S + 148) n).xf (fun b h1 h2 => (OpF.flM M (S + 148) n).2 b (by omega) (by omega)) rfl
theorem upN_st {D : Nat → Int32} : ∀ (n : Nat) (a : Int32), trm D (n + 1) a → upN D (n + 1) a = upN D n a := by
  intro n
  induction n with
  | zero =>
    intro a h
    rcases h with rfl | ⟨-, h⟩
    · simp only [upN, f6, Bool.false_eq_true, ↓reduceIte]
    · exact h.elim
  | succ n ih =>
    intro a h
    rcases h with rfl | ⟨h1, h⟩
    · simp only [upN, f6, Bool.false_eq_true, ↓reduceIte]
    · have := ih _ h
      rw [show upN D (n + 1 + 1) a = if isF a = true then upN D (n + 1) (D a.toNatClampNeg) + 1 else 0 from rfl, this]
      rfl
theorem c_up {M : SM} {m : Nat} {D V : Nat → Int32} (h : ModAt M m) (hT : TR (mI M (m + 1)) D V) : ∀ (n c : Nat) (f a : Int32), trm D (n + 1) a → rn 150 4 [some (.ref m), some (.int f), some (.int (nI c - 1)), some (.int a)] [] M = some (some (.int (nI (c + upN D n a) - 1)), M) := by
  intro n
  induction n with
  | zero =>
    intro c f a hn
    rcases hn with rfl | ⟨-, hn⟩
    · rw [t150_4]
      simp only [t150_0, t150_1, t150_2, t150_3, t150_5, t150_7, t150_10, t150_13, t150_14, t150_15, t150_16, t150_19, t150_20, t150_23, t150_24, ↓reduceIte, upN, Nat.add_zero]
    · exact hn.elim
  | succ n ih =>
    intro c f a hn
    rcases hn with rfl | ⟨hf, hn⟩
    · rw [t150_4]
      simp only [t150_0, t150_1, t150_2, t150_3, t150_5, t150_7, t150_10, t150_13, t150_14, t150_15, t150_16, t150_19, t150_20, t150_23, t150_24, ↓reduceIte, upN, f6, Bool.false_eq_true, Nat.add_zero]
    · obtain ⟨j, hj, rfl⟩ := isF_of hf
      rw [nI_c (show j < 2147483648 by omega)] at hn
      have e := c_filePart h hj (show 1 < 3 by decide)
      rw [show nI 1 = 1 from rfl, (hT j hj).2.1] at e
      have ec : nI c - 1 + 1 = nI (c + 1) - 1 := by rw [nI_pred, Int32.sub_add_cancel]
      have := ih (c + 1) f (D j) hn
      rw [show c + 1 + upN D n (D j) = c + (upN D n (D j) + 1) by omega] at this
      rw [t150_4]
      simp only [t150_0, t150_1, t150_2, t150_3, t150_5, t150_7, t150_10, t150_13, t150_14, t150_15, t150_16, t150_19, t150_20, t150_23, t150_24, nI_m6 hj, h.1, e, cbn_i, ec, ↓reduceIte, upN, hf, nI_c (show j < 2147483648 by omega)]
      exact this
theorem c_mAbove {M : SM} {m f : Nat} {D V : Nat → Int32} (h : ModAt M m) (hT : TR (mI M (m + 1)) D V) (hI : TI D V) (hf : f < 16) : cl 150 [.ref m, .int (nI f)] M = some (some (.int (nI (upN D 16 (D f)))), M) := by
  have ht := hI.2.2.2.2 f hf
  have e := c_up h hT 16 0 (nI f) (nI f) ht
  rcases ht with ht | ⟨h1, h2⟩
  · exact absurd ht (of_eq_false (nI_m6 hf))
  · rw [nI_c (show f < 2147483648 by omega)] at h2
    have es : upN D 16 (nI f) = upN D 15 (D f) + 1 := by
      rw [show upN D 16 (nI f) = if isF (nI f) = true then upN D 15 (D (nI f).toNatClampNeg) + 1 else 0 from rfl, if_pos h1, nI_c (show f < 2147483648 by omega)]
    rw [es, show 0 + (upN D 15 (D f) + 1) = upN D 15 (D f) + 1 by omega, nI_pred] at e
    rw [upN_st 15 _ h2]
    show rn 150 0 [some (.ref m), some (.int (nI f)), none, none] [] M = _
    simp only [t150_0, t150_1, t150_2, t150_3]
    exact e
theorem c_widest {M : SM} {m n R : Nat} (h : ModAt M m) (hn : mI M (m + 1) 0 = nI n) (h40 : n ≤ 40) (hr : mI M (m + 1) 1 = nI R) (hR : R < 2147483648) : cl 155 [.ref m] M = some (some (.int (nI (wdN (fun e => mI M (m + 1) (2 + 8 * e + 4)) n R))), M) := by
  show rn 155 0 [some (.ref m), none, none, none, none] [] M = _
  have hp4 := fun k (hk : k < 40) => c_part h hk (show 4 < 8 by decide)
  rw [show nI 4 = 4 from rfl] at hp4
  obtain ⟨h1, h2, -, -, -, -, -, -, -, -, k1, -⟩ := h
  have hin : inR 0 370 = True := eq_true (by decide)
  have hin1 : inR 1 370 = True := eq_true (by decide)
  have e0 : (0 : Int32).toNatClampNeg = 0 := by decide
  have e1 : (1 : Int32).toNatClampNeg = 1 := by decide
  generalize hro : (fun e => mI M (m + 1) (2 + 8 * e + 4)) = ro
  have hrk : ∀ k, mI M (m + 1) (2 + 8 * k + 4) = ro k := fun k => by rw [← hro]
  generalize hA : wdN ro n R = A
  have lp : ∀ i, i ≤ R → ∀ l3 l4, rn 155 4 [some (.ref m), some (.int (nI (wdN ro n i))), some (.int (nI i)), l3, l4] [] M = some (some (.int (nI A)), M) := by
    refine loopB ?_ ?_
    · intro l3 l4
      rw [t155_4]
      simp only [t155_0, t155_1, t155_2, t155_3, t155_5, t155_6, t155_9, t155_10, t155_11, t155_14, t155_15, t155_16, t155_17, t155_21, t155_22, t155_25, t155_26, t155_27, t155_30, t155_31, t155_32, t155_34, t155_35, t155_38, t155_39, t155_42, t155_43, t155_46, t155_47, t155_48, t155_49, t155_52, t155_55, t155_56, t155_57, t155_60, t155_61, t155_64, t155_65, t155_66, t155_69, t155_72, t155_73, h1, h2, va_rf_s, ↓reduceIte, k1, hin1, e1, true_or, and_self, hr, leN R hR hR, Nat.le_refl, hA]
    · intro i hi ih l3 l4
      have hle : ¬ R ≤ i := by omega
      generalize hp : (fun e => decide (ro e = nI i)) = p at *
      have hpk : ∀ k, p k = decide (ro k = nI i) := fun k => by rw [← hp]
      have hc := cnt_le p n
      have hw := wdN_le ro n i
      have hnx : wdN ro n (i + 1) = max (wdN ro n i) (cnt p n) := by
        rw [← hp]; rfl
      have li : ∀ k, k ≤ n → rn 155 19 [some (.ref m), some (.int (nI (wdN ro n i))), some (.int (nI i)), some (.int (nI (cnt p k))), some (.int (nI k))] [] M = some (some (.int (nI A)), M) := by
        refine loopB ?_ ?_
        · rw [t155_19]
          have em : (nI (cnt p n) ≤ nI (wdN ro n i)) = (cnt p n ≤ wdN ro n i) := i_le (by omega) (by omega)
          have ih := ih (some (.int (nI (cnt p n)))) (some (.int (nI n)))
          rw [hnx] at ih
          by_cases q : cnt p n ≤ wdN ro n i
          · rw [Nat.max_eq_left q] at ih
            simp only [t155_0, t155_1, t155_2, t155_3, t155_5, t155_6, t155_9, t155_10, t155_11, t155_14, t155_15, t155_16, t155_17, t155_21, t155_22, t155_25, t155_26, t155_27, t155_30, t155_31, t155_32, t155_34, t155_35, t155_38, t155_39, t155_42, t155_43, t155_46, t155_47, t155_48, t155_49, t155_52, t155_55, t155_56, t155_57, t155_60, t155_61, t155_64, t155_65, t155_66, t155_69, t155_72, t155_73, h1, h2, va_rf_s, ↓reduceIte, k1, hin, e0, true_or, and_self, hn, leN n (show n < 2147483648 by omega) (show n < 2147483648 by omega), Nat.le_refl, em, q, n1]
            exact ih
          · rw [Nat.max_eq_right (by omega)] at ih
            simp only [t155_0, t155_1, t155_2, t155_3, t155_5, t155_6, t155_9, t155_10, t155_11, t155_14, t155_15, t155_16, t155_17, t155_21, t155_22, t155_25, t155_26, t155_27, t155_30, t155_31, t155_32, t155_34, t155_35, t155_38, t155_39, t155_42, t155_43, t155_46, t155_47, t155_48, t155_49, t155_52, t155_55, t155_56, t155_57, t155_60, t155_61, t155_64, t155_65, t155_66, t155_69, t155_72, t155_73, h1, h2, va_rf_s, ↓reduceIte, k1, hin, e0, true_or, and_self, hn, leN n (show n < 2147483648 by omega) (show n < 2147483648 by omega), Nat.le_refl, em, q, n1]
            exact ih
        · intro k hk ik
          rw [t155_19]
          have hle2 : ¬ n ≤ k := by omega
          have hpk := hpk k
          have q4 := hp4 k (by omega)
          rw [hrk] at q4
          by_cases q : ro k = nI i
          · simp only [q, decide_true] at hpk
            simp only [t155_0, t155_1, t155_2, t155_3, t155_5, t155_6, t155_9, t155_10, t155_11, t155_14, t155_15, t155_16, t155_17, t155_21, t155_22, t155_25, t155_26, t155_27, t155_30, t155_31, t155_32, t155_34, t155_35, t155_38, t155_39, t155_42, t155_43, t155_46, t155_47, t155_48, t155_49, t155_52, t155_55, t155_56, t155_57, t155_60, t155_61, t155_64, t155_65, t155_66, t155_69, t155_72, t155_73, h1, h2, va_rf_s, ↓reduceIte, k1, hin, e0, true_or, and_self, hn, leN n (show n < 2147483648 by omega) (show k < 2147483648 by omega), hle2, q4, cbn_i, q, not_true_eq_false, n1]
            simpa only [cnt, hpk, ↓reduceIte] using ik
          · simp only [q, decide_false] at hpk
            simp only [t155_0, t155_1, t155_2, t155_3, t155_5, t155_6, t155_9, t155_10, t155_11, t155_14, t155_15, t155_16, t155_17, t155_21, t155_22, t155_25, t155_26, t155_27, t155_30, t155_31, t155_32, t155_34, t155_35, t155_38, t155_39, t155_42, t155_43, t155_46, t155_47, t155_48, t155_49, t155_52, t155_55, t155_56, t155_57, t155_60, t155_61, t155_64, t155_65, t155_66, t155_69, t155_72, t155_73, h1, h2, va_rf_s, ↓reduceIte, k1, hin, e0, true_or, and_self, hn, leN n (show n < 2147483648 by omega) (show k < 2147483648 by omega), hle2, q4, cbn_i, q, not_false_eq_true, n1, Int32.add_zero]
            simpa only [cnt, hpk, ↓reduceIte, Bool.false_eq_true, Nat.add_zero] using ik
      rw [t155_4]
      simp only [t155_5, t155_6, t155_9, t155_10, t155_11, t155_14, t155_15, t155_16, t155_17, h1, h2, va_rf_s, ↓reduceIte, k1, hin1, e1, true_or, and_self, hr, leN R hR (show i < 2147483648 by omega), hle]
      exact li 0 (Nat.zero_le _)
  simp only [t155_0, t155_1, t155_2, t155_3]
  exact lp 0 (Nat.zero_le _) none none
