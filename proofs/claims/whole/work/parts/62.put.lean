/-! characters put: how many, which -/
def sh8 (x : Int64) : Int64 := (x.toUInt64 >>> ((8 : Int32).toInt64.toUInt64 &&& Int64.toUInt64 63)).toInt64
def rs (c : Int64) : Nat → Int64
  | 0 => c
  | k + 1 => sh8 (rs c k)
def chb (u : Int64) : Int32 := (u &&& 255).toInt32
def nbS (c : Int64) : Nat → Nat → Option Nat
  | 0, k => some k
  | d + 1, k => if rs c k = 0 then some k else if chb (rs c k) < 33 ∨ 126 < chb (rs c k) then none else nbS c d (k + 1)
theorem nU_rs (c : Int64) : ∀ k, nU (rs c k) = nU c / 256 ^ k := by
  intro k
  induction k with
  | zero => simp [rs]
  | succ k ih =>
    show nU (sh8 (rs c k)) = _
    unfold sh8
    rw [nU_shr _ _ 8 sh_8, ih, Nat.div_div_eq_div_mul]
    show nU c / (256 ^ k * 256) = nU c / 256 ^ (k + 1)
    rw [← Nat.pow_succ]
theorem nU_inj {x y : Int64} (h : nU x = nU y) : x = y := Int64.toBitVec_inj.mp (BitVec.eq_of_toNat_eq h)
theorem rs_8 (c : Int64) : rs c 8 = 0 := by
  apply nU_inj
  rw [nU_rs]
  have := nU_lt c
  show nU c / 256 ^ 8 = 0
  exact Nat.div_eq_of_lt this
theorem shk : ∀ k, k < 8 → ((nI (8 * k)).toInt64.toUInt64 &&& Int64.toUInt64 63).toNat % 64 = 8 * k := by decide +kernel
theorem rs_k {c : Int64} {k : Nat} (hk : k < 8) : (c.toUInt64 >>> ((nI (8 * k)).toInt64.toUInt64 &&& Int64.toUInt64 63)).toInt64 = rs c k := by
  apply nU_inj
  rw [nU_shr _ _ (8 * k) (shk k hk), nU_rs, show (256 : Nat) = 2 ^ 8 from rfl, ← Nat.pow_mul]
theorem chb_and (u : Int64) : u.toInt32 &&& 255 = chb u := by
  unfold chb
  rw [Int64.toInt32_and]
  rfl
theorem nbS_ok {c : Int64} : ∀ (d k s : Nat), d + k = 8 → nbS c d k = some s → k ≤ s ∧ s ≤ 8 ∧ rs c s = 0 ∧ ∀ i, k ≤ i → i < s → ¬ (chb (rs c i) < 33 ∨ 126 < chb (rs c i)) := by
  intro d
  induction d with
  | zero =>
    intro k s hk h
    obtain rfl : k = 8 := by omega
    have : (8 : Nat) = s := by simpa [nbS] using h
    subst this
    exact ⟨Nat.le_refl _, Nat.le_refl _, rs_8 c, fun i h1 h2 => by omega⟩
  | succ d ih =>
    intro k s hk h
    unfold nbS at h
    split at h
    · rename_i h0
      cases h
      exact ⟨Nat.le_refl _, by omega, h0, fun i h1 h2 => by omega⟩
    · split at h
      · cases h
      · rename_i hb
        obtain ⟨a, b, e, f⟩ := ih (k + 1) s (by omega) h
        refine ⟨by omega, b, e, fun i h1 h2 => ?_⟩
        by_cases q : i = k
        · subst q; exact hb
        · exact f i (by omega) h2
theorem c_number (c : Int64) (M : SM) : cl 76 [.long c] M = some (some (.int (match nbS c 8 0 with | none => 0 | some s => nI s)), M) := by
  show rn 76 0 [some (.long c), none, none, none, none, none] [] M = _
  have lp : ∀ (d k : Nat) (l5 : Option Value), d + k = 8 → rn 76 4 [some (.long c), none, some (.int (nI k)), some (.long (rs c k)), none, l5] [] M = some (some (.int (match nbS c d k with | none => 0 | some s => nI s)), M) := by
    intro d
    induction d with
    | zero =>
      intro k l5 hk
      obtain rfl : k = 8 := by omega
      rw [t76_4]
      have e : ((8 : Int32) ≤ nI 8) = True := by decide
      simp only [t76_0, t76_1, t76_2, t76_3, t76_5, t76_7, t76_10, t76_11, t76_12, t76_13, t76_16, t76_17, t76_20, t76_21, t76_22, t76_24, t76_26, t76_28, t76_31, t76_33, t76_35, t76_38, t76_39, t76_40, t76_41, t76_43, t76_44, t76_45, t76_48, t76_51, t76_52, e, ↓reduceIte, nbS]
    | succ d ih =>
      intro k l5 hk
      have e : ((8 : Int32) ≤ nI k) = False := by
        rw [show (8 : Int32) = nI 8 from rfl, i_le (by decide) (by omega)]
        exact eq_false (by omega)
      have ce : ((rs c k &&& 255).toInt32) = chb (rs c k) := rfl
      have se : ((rs c k).toUInt64 >>> ((8 : Int32).toInt64.toUInt64 &&& Int64.toUInt64 63)).toInt64 = rs c (k + 1) := rfl
      have ge : (chb (rs c k) ≤ 126) = ¬ 126 < chb (rs c k) := propext Int32.not_lt.symm
      rw [t76_4]
      by_cases z : rs c k = 0
      · simp only [t76_0, t76_1, t76_2, t76_3, t76_5, t76_7, t76_10, t76_11, t76_12, t76_13, t76_16, t76_17, t76_20, t76_21, t76_22, t76_24, t76_26, t76_28, t76_31, t76_33, t76_35, t76_38, t76_39, t76_40, t76_41, t76_43, t76_44, t76_45, t76_48, t76_51, t76_52, e, lg_cmp_eq, z, ↓reduceIte, nbS]
      · by_cases b1 : chb (rs c k) < 33
        · simp only [t76_0, t76_1, t76_2, t76_3, t76_5, t76_7, t76_10, t76_11, t76_12, t76_13, t76_16, t76_17, t76_20, t76_21, t76_22, t76_24, t76_26, t76_28, t76_31, t76_33, t76_35, t76_38, t76_39, t76_40, t76_41, t76_43, t76_44, t76_45, t76_48, t76_51, t76_52, e, lg_cmp_eq, z, ce, b1, true_or, ↓reduceIte, nbS]
        · by_cases b2 : 126 < chb (rs c k)
          · simp only [t76_0, t76_1, t76_2, t76_3, t76_5, t76_7, t76_10, t76_11, t76_12, t76_13, t76_16, t76_17, t76_20, t76_21, t76_22, t76_24, t76_26, t76_28, t76_31, t76_33, t76_35, t76_38, t76_39, t76_40, t76_41, t76_43, t76_44, t76_45, t76_48, t76_51, t76_52, e, lg_cmp_eq, z, ce, b1, ge, b2, or_true, not_true_eq_false, ↓reduceIte, nbS]
          · have := ih (k + 1) (some (.int (chb (rs c k)))) (by omega)
            simp only [t76_0, t76_1, t76_2, t76_3, t76_5, t76_7, t76_10, t76_11, t76_12, t76_13, t76_16, t76_17, t76_20, t76_21, t76_22, t76_24, t76_26, t76_28, t76_31, t76_33, t76_35, t76_38, t76_39, t76_40, t76_41, t76_43, t76_44, t76_45, t76_48, t76_51, t76_52, e, lg_cmp_eq, z, ce, se, b1, ge, b2, or_self, not_false_eq_true, ↓reduceIte, nbS, n1]
            exact this
  have := lp 8 0 none rfl
  simp only [t76_0, t76_1, t76_2, t76_3, t76_5, t76_7, t76_10, t76_11, t76_12, t76_13, t76_16, t76_17, t76_20, t76_21, t76_22, t76_24, t76_26, t76_28, t76_31, t76_33, t76_35, t76_38, t76_39, t76_40, t76_41, t76_43, t76_44, t76_45, t76_48, t76_51, t76_52]
  exact this
theorem m_isbad (c : Int64) (M : SM) (m : Nat) (l7 : Option Value) : ∀ (d k : Nat) (u : Int64), d + k = 8 → rn 161 8 [some (.ref m), some (.long c), none, some (.int (nI k)), some (.long u), none, some (.int 0), l7] [] M = some (some (.int (-2)), M) := by
  intro d
  induction d with
  | zero =>
    intro k u hk
    obtain rfl : k = 8 := by omega
    rw [t161_8]
    have e : ((8 : Int32) ≤ nI 8) = True := by decide
    have e2 : (nI 8 = 0) = False := by decide
    simp only [t161_0, t161_1, t161_2, t161_3, t161_5, t161_6, t161_9, t161_11, t161_14, t161_16, t161_19, t161_20, t161_21, t161_22, t161_25, t161_27, t161_30, t161_32, t161_35, t161_36, t161_37, t161_39, t161_41, t161_44, t161_47, t161_48, t161_51, t161_52, t161_54, t161_56, t161_58, t161_59, t161_61, t161_64, t161_67, t161_68, t161_71, t161_73, t161_76, t161_78, t161_79, t161_80, t161_83, t161_85, t161_86, t161_87, t161_90, t161_91, t161_92, t161_94, t161_97, t161_99, t161_100, t161_101, t161_102, t161_103, t161_107, t161_110, t161_111, t161_114, t161_115, t161_118, t161_119, t161_121, t161_123, t161_124, t161_125, t161_128, t161_129, t161_130, t161_131, t161_132, t161_133, t161_136, t161_137, t161_138, t161_141, t161_144, t161_147, t161_148, t161_151, e, e2, ↓reduceIte]
  | succ d ih =>
    intro k u hk
    have e : ((8 : Int32) ≤ nI k) = False := by
      rw [show (8 : Int32) = nI 8 from rfl, i_le (by decide) (by omega)]
      exact eq_false (by omega)
    rw [t161_8]
    by_cases z : u &&& 255 = 0
    · by_cases k0 : nI k = 0 <;> simp only [t161_0, t161_1, t161_2, t161_3, t161_5, t161_6, t161_9, t161_11, t161_14, t161_16, t161_19, t161_20, t161_21, t161_22, t161_25, t161_27, t161_30, t161_32, t161_35, t161_36, t161_37, t161_39, t161_41, t161_44, t161_47, t161_48, t161_51, t161_52, t161_54, t161_56, t161_58, t161_59, t161_61, t161_64, t161_67, t161_68, t161_71, t161_73, t161_76, t161_78, t161_79, t161_80, t161_83, t161_85, t161_86, t161_87, t161_90, t161_91, t161_92, t161_94, t161_97, t161_99, t161_100, t161_101, t161_102, t161_103, t161_107, t161_110, t161_111, t161_114, t161_115, t161_118, t161_119, t161_121, t161_123, t161_124, t161_125, t161_128, t161_129, t161_130, t161_131, t161_132, t161_133, t161_136, t161_137, t161_138, t161_141, t161_144, t161_147, t161_148, t161_151, e, lg_cmp_eq, z, k0, ite_self, ↓reduceIte]
    · have := ih (k + 1) ((u.toUInt64 >>> ((8 : Int32).toInt64.toUInt64 &&& Int64.toUInt64 63)).toInt64) (by omega)
      simp only [t161_0, t161_1, t161_2, t161_3, t161_5, t161_6, t161_9, t161_11, t161_14, t161_16, t161_19, t161_20, t161_21, t161_22, t161_25, t161_27, t161_30, t161_32, t161_35, t161_36, t161_37, t161_39, t161_41, t161_44, t161_47, t161_48, t161_51, t161_52, t161_54, t161_56, t161_58, t161_59, t161_61, t161_64, t161_67, t161_68, t161_71, t161_73, t161_76, t161_78, t161_79, t161_80, t161_83, t161_85, t161_86, t161_87, t161_90, t161_91, t161_92, t161_94, t161_97, t161_99, t161_100, t161_101, t161_102, t161_103, t161_107, t161_110, t161_111, t161_114, t161_115, t161_118, t161_119, t161_121, t161_123, t161_124, t161_125, t161_128, t161_129, t161_130, t161_131, t161_132, t161_133, t161_136, t161_137, t161_138, t161_141, t161_144, t161_147, t161_148, t161_151, e, lg_cmp_eq, z, ↓reduceIte, n1]
      exact this
theorem m_number (c : Int64) (M : SM) (m : Nat) (l7 : Option Value) : ∀ (d k : Nat), d + k = 8 → rn 161 8 [some (.ref m), some (.long c), none, some (.int (nI k)), some (.long (rs c k)), none, some (.int 1), l7] [] M = match nbS c d k with | none => some (some (.int (-2)), M) | some s => rn 161 67 [some (.ref m), some (.long c), none, some (.int (nI s)), some (.long (rs c s)), none, some (.int 1), l7] [] M := by
  intro d
  have one0 : ((1 : Int32) = 0) = False := by decide
  induction d with
  | zero =>
    intro k hk
    obtain rfl : k = 8 := by omega
    rw [t161_8]
    have e : ((8 : Int32) ≤ nI 8) = True := by decide
    simp only [t161_9, t161_11, e, ↓reduceIte, nbS]
  | succ d ih =>
    intro k hk
    have e : ((8 : Int32) ≤ nI k) = False := by
      rw [show (8 : Int32) = nI 8 from rfl, i_le (by decide) (by omega)]
      exact eq_false (by omega)
    have ce : ((rs c k &&& 255).toInt32) = chb (rs c k) := rfl
    have se : ((rs c k).toUInt64 >>> ((8 : Int32).toInt64.toUInt64 &&& Int64.toUInt64 63)).toInt64 = rs c (k + 1) := rfl
    rw [t161_8]
    by_cases z : rs c k = 0
    · have z2 : (0 : Int64) &&& 255 = 0 := by decide
      simp only [t161_9, t161_11, t161_14, t161_16, t161_19, t161_20, t161_21, t161_22, e, lg_cmp_eq, z, z2, ↓reduceIte, nbS]
    · by_cases z2 : rs c k &&& 255 = 0
      · have b1 : chb (rs c k) < 33 := by unfold chb; rw [z2]; decide
        by_cases k0 : nI k = 0 <;> simp only [t161_0, t161_1, t161_2, t161_3, t161_5, t161_6, t161_9, t161_11, t161_14, t161_16, t161_19, t161_20, t161_21, t161_22, t161_25, t161_27, t161_30, t161_32, t161_35, t161_36, t161_37, t161_39, t161_41, t161_44, t161_47, t161_48, t161_51, t161_52, t161_54, t161_56, t161_58, t161_59, t161_61, t161_64, t161_67, t161_68, t161_71, t161_73, t161_76, t161_78, t161_79, t161_80, t161_83, t161_85, t161_86, t161_87, t161_90, t161_91, t161_92, t161_94, t161_97, t161_99, t161_100, t161_101, t161_102, t161_103, t161_107, t161_110, t161_111, t161_114, t161_115, t161_118, t161_119, t161_121, t161_123, t161_124, t161_125, t161_128, t161_129, t161_130, t161_131, t161_132, t161_133, t161_136, t161_137, t161_138, t161_141, t161_144, t161_147, t161_148, t161_151, e, lg_cmp_eq, z, z2, b1, k0, one0, true_or, ite_self, ↓reduceIte, nbS]
      · by_cases bb : chb (rs c k) < 33 ∨ 126 < chb (rs c k)
        · have := m_isbad c M m l7 d (k + 1) (rs c (k + 1)) (by omega)
          simp only [t161_9, t161_11, t161_14, t161_16, t161_19, t161_20, t161_21, t161_22, t161_25, t161_27, t161_30, t161_32, t161_35, t161_36, t161_37, t161_39, t161_41, t161_44, t161_47, t161_48, t161_51, t161_52, t161_54, t161_56, t161_58, t161_59, t161_61, t161_64, e, lg_cmp_eq, z, z2, ce, se, one0, c_within, cbn_i, bb, ↓reduceIte, nbS, n1]
          exact this
        · have := ih (k + 1) (by omega)
          simp only [t161_9, t161_11, t161_14, t161_16, t161_19, t161_20, t161_21, t161_22, t161_25, t161_27, t161_30, t161_32, t161_35, t161_36, t161_37, t161_39, t161_41, t161_44, t161_47, t161_48, t161_51, t161_52, t161_54, t161_56, t161_58, t161_59, t161_61, t161_64, e, lg_cmp_eq, z, z2, ce, se, one0, c_within, cbn_i, bb, ↓reduceIte, nbS, n1]
          exact this
/-- so many of them written, the first of them first -/
def apR (f : Nat → Int32) (c : Int64) (l s i : Nat) : Nat → Int32 := fun x => if l ≤ x ∧ x < l + i then chb (rs c (s - 1 - (x - l))) else f x
theorem apR_0 (f : Nat → Int32) (c : Int64) (l s : Nat) : apR f c l s 0 = f := by
  funext x
  unfold apR
  rw [if_neg (by omega)]
theorem apR_up (f : Nat → Int32) (c : Int64) (l s i : Nat) : va_up (apR f c l s i) (l + i) (chb (rs c (s - 1 - i))) = apR f c l s (i + 1) := by
  funext x
  unfold va_up apR
  by_cases h : x = l + i
  · subst h
    rw [if_pos rfl, if_pos (by omega), show l + i - l = i by omega]
  · rw [if_neg h]
    by_cases h2 : l ≤ x ∧ x < l + i
    · rw [if_pos h2, if_pos (by omega)]
    · rw [if_neg h2, if_neg (by omega)]
theorem p_put {M : SM} {S sb L B : Nat} {xs : Nat → Int32} (h : Rel M S sb L xs B) (c : Int64) : PairI 74 161 [.long c] M S sb L xs B := by
  obtain ⟨⟨K0, P0, P1, P2, P3, P4, P5, P6⟩, SN, ⟨KH, PH, KR, RG⟩, ⟨KL, SL⟩, ⟨KP, PP, KC⟩, ⟨KD, PD⟩, TQ, TW, MM, ⟨LO1, LO2, LO3, LO4⟩⟩ := id h.1.1
  obtain ⟨⟨hS, hh, hs, ⟨l, l80, p2, p3, p4⟩, hx⟩, n, R, hR, hN⟩ := id h
  have hnum := c_number c M
  have hmn := m_number c M (S + 148) none 8 0 rfl
  rw [show nI 0 = 0 from rfl, show rs c 0 = c from rfl] at hmn
  have ref0 : cl 161 [.ref (S + 148), .long c] M = rn 161 8 [some (.ref (S + 148)), some (.long c), none, some (.int 0), some (.long c), none, some (.int 1), none] [] M := by
    show rn 161 0 [some (.ref (S + 148)), some (.long c), none, none, none, none, none, none] [] M = _
    simp only [t161_0, t161_1, t161_2, t161_3, t161_5, t161_6]
  have one0 : ((1 : Int32) = 0) = False := by decide
  cases hb : nbS c 8 0 with
  | none =>
    rw [hb] at hnum hmn
    refine ⟨-2, M, M, Low.refl _ _, ?_, ?_, h⟩
    · have : cl 75 [.ref (S + 109), .long c] M = some (some (.int (-2)), M) := by
        show rn 75 0 [some (.ref (S + 109)), some (.long c), none, none, none] [] M = _
        simp only [t75_0, t75_1, t75_4, t75_5, t75_6, t75_9, t75_11, t75_12, t75_13, t75_16, t75_17, t75_18, t75_20, t75_23, t75_25, t75_26, t75_27, t75_28, t75_29, t75_33, t75_36, t75_37, t75_40, t75_41, t75_44, t75_45, t75_47, t75_49, t75_50, t75_51, t75_52, t75_55, t75_56, t75_57, t75_58, t75_59, t75_62, t75_63, t75_64, t75_67, t75_70, t75_73, t75_74, t75_77, hnum, cbn_i, ↓reduceIte, not_true_eq_false]
      show rn 74 0 [some (.ref S), some (.long c), none] [] M = _
      simp only [t74_0, t74_1, t74_4, t74_7, t74_8, t74_11, K0, P3, KD, P4, KP, va_rf_s, this, cbn_i, ↓reduceIte]
    · rw [ref0]; exact hmn
  | some s =>
    rw [hb] at hnum hmn
    obtain ⟨-, s8, hr0, hgood⟩ := nbS_ok 8 0 s rfl hb
    by_cases s0 : s = 0
    · subst s0
      refine ⟨-2, M, M, Low.refl _ _, ?_, ?_, h⟩
      · have : cl 75 [.ref (S + 109), .long c] M = some (some (.int (-2)), M) := by
          show rn 75 0 [some (.ref (S + 109)), some (.long c), none, none, none] [] M = _
          simp only [t75_0, t75_1, t75_4, t75_5, t75_6, t75_9, t75_11, t75_12, t75_13, t75_16, t75_17, t75_18, t75_20, t75_23, t75_25, t75_26, t75_27, t75_28, t75_29, t75_33, t75_36, t75_37, t75_40, t75_41, t75_44, t75_45, t75_47, t75_49, t75_50, t75_51, t75_52, t75_55, t75_56, t75_57, t75_58, t75_59, t75_62, t75_63, t75_64, t75_67, t75_70, t75_73, t75_74, t75_77, hnum, show nI 0 = 0 from rfl, cbn_i, ↓reduceIte, not_true_eq_false]
        show rn 74 0 [some (.ref S), some (.long c), none] [] M = _
        simp only [t74_0, t74_1, t74_4, t74_7, t74_8, t74_11, K0, P3, KD, P4, KP, va_rf_s, this, cbn_i, ↓reduceIte]
      · rw [ref0, hmn]
        simp only [t161_67, t161_68, t161_83, t161_85, show nI 0 = 0 from rfl, ↓reduceIte]
    · have sz : (nI s = 0) = False := by rw [show (0 : Int32) = nI 0 from rfl, nI_inj (by omega) (by omega)]; exact eq_false s0
      have h80 : (nI (l + s) ≤ 80) = (l + s ≤ 80) := i_le (b := 80) (by omega) (by decide)
      have p3' : mI M (S + 148) 7 = nI l := p3
      by_cases q : l + s ≤ 80
      · -- both write
        have hshift : ∀ t, t < 8 → (c.toUInt64 >>> ((nI t * 8).toInt64.toUInt64 &&& Int64.toUInt64 63)).toInt64 = rs c t := fun t ht => by
          rw [show (8 : Int32) = nI 8 from rfl, pk_mul, Nat.mul_comm]; exact rs_k ht
        have hshift2 : ∀ t, t < 8 → (c.toUInt64 >>> (((8 : Int32) * nI t).toInt64.toUInt64 &&& Int64.toUInt64 63)).toInt64 = rs c t := fun t ht => by
          rw [show (8 : Int32) = nI 8 from rfl, pk_mul]; exact rs_k ht
        have hm1 : nI 0 - 1 < 0 := by decide
        have chd : ∀ u : Int64, (u &&& 255).toInt32 = chb u := fun _ => rfl
        have dec : ∀ t, nI t + (-1) = nI t - 1 := fun t => by rw [Int32.sub_eq_add_neg]
        obtain ⟨M1, hM1⟩ : ∃ M1, M1 = sI (sI M (S + 110) (apR (mI M (S + 110)) c l s s)) (S + 109) (va_up (mI M (S + 109)) 1 (nI (l + s))) := ⟨_, rfl⟩
        have lpA : ∀ t, t ≤ s → rn 75 31 [some (.ref (S + 109)), some (.long c), none, some (.int (nI s)), some (.int (nI t - 1))] [] (sI (sI M (S + 110) (apR (mI M (S + 110)) c l s (s - t))) (S + 109) (va_up (mI M (S + 109)) 1 (nI (l + (s - t))))) = some (some (.int (nI (l + s))), M1) := by
          intro t
          induction t with
          | zero =>
            intro _
            rw [t75_31, Nat.sub_zero, ← hM1]
            have e1 : M1.2.2 = M.2.2 := by rw [hM1]; rfl
            have e2 : mI M1 (S + 109) 1 = nI (l + s) := by rw [hM1, mI_sI, if_pos rfl, va_up_self]
            simp only [t75_0, t75_1, t75_4, t75_5, t75_6, t75_9, t75_11, t75_12, t75_13, t75_16, t75_17, t75_18, t75_20, t75_23, t75_25, t75_26, t75_27, t75_28, t75_29, t75_33, t75_36, t75_37, t75_40, t75_41, t75_44, t75_45, t75_47, t75_49, t75_50, t75_51, t75_52, t75_55, t75_56, t75_57, t75_58, t75_59, t75_62, t75_63, t75_64, t75_67, t75_70, t75_73, t75_74, t75_77, hm1, KK e1, KP, e2, ↓reduceIte]
          | succ t ih =>
            intro ht
            have ih := ih (by omega)
            have i1 : inR (nI (l + (s - (t + 1)))) 80 = True := i_inT (by omega) (by decide)
            have hup := apR_up (mI M (S + 110)) c l s (s - (t + 1))
            rw [show s - 1 - (s - (t + 1)) = t by omega, show s - (t + 1) + 1 = s - t by omega] at hup
            have x1 : ¬ S + 109 = S + 110 := by omega
            have x2 : ¬ S + 110 = S + 109 := by omega
            rw [t75_31, nI_pred]
            have hmm : sI (sI (sI (sI M (S + 110) (apR (mI M (S + 110)) c l s (s - (t + 1)))) (S + 109) (va_up (mI M (S + 109)) 1 (nI (l + (s - (t + 1)))))) (S + 110) (apR (mI M (S + 110)) c l s (s - t))) (S + 109) (va_up (mI M (S + 109)) 1 (nI (l + (s - t)))) = sI (sI M (S + 110) (apR (mI M (S + 110)) c l s (s - t))) (S + 109) (va_up (mI M (S + 109)) 1 (nI (l + (s - t)))) := by
              rw [sI_comm _ (show S + 109 ≠ S + 110 by omega), sI_sI, sI_sI]
            have hnx : nI (l + (s - (t + 1))) + 1 = nI (l + (s - t)) := by rw [n1, show l + (s - (t + 1)) + 1 = l + (s - t) by omega]
            simp only [t75_0, t75_1, t75_4, t75_5, t75_6, t75_9, t75_11, t75_12, t75_13, t75_16, t75_17, t75_18, t75_20, t75_23, t75_25, t75_26, t75_27, t75_28, t75_29, t75_33, t75_36, t75_37, t75_40, t75_41, t75_44, t75_45, t75_47, t75_49, t75_50, t75_51, t75_52, t75_55, t75_56, t75_57, t75_58, t75_59, t75_62, t75_63, t75_64, t75_67, t75_70, t75_73, t75_74, t75_77, lt0 (show t < 2147483648 by omega), ↓reduceIte, mK_sI, mP_sI, KP, PP, KC, va_rf_s, mI_sI, x1, x2, va_up_self, i1, and_self, nI_c (show l + (s - (t + 1)) < 2147483648 by omega), hshift t (by omega), chb_and, hup, hnx, va_up2, hmm, dec]
            exact ih
        have hcA : cl 75 [.ref (S + 109), .long c] M = some (some (.int (nI (l + s))), M1) := by
          show rn 75 0 [some (.ref (S + 109)), some (.long c), none, none, none] [] M = _
          have l0 := lpA s (Nat.le_refl _)
          have x1 : va_up (mI M (S + 109)) 1 (nI l) = mI M (S + 109) := by rw [← p2]; exact va_up_id _ _
          rw [Nat.sub_self, apR_0, sI_self, Nat.add_zero l, x1, sI_self] at l0
          simp only [t75_0, t75_1, t75_4, t75_5, t75_6, t75_9, t75_11, t75_12, t75_13, t75_16, t75_17, t75_18, t75_20, t75_23, t75_25, t75_26, t75_27, t75_28, t75_29, t75_33, t75_36, t75_37, t75_40, t75_41, t75_44, t75_45, t75_47, t75_49, t75_50, t75_51, t75_52, t75_55, t75_56, t75_57, t75_58, t75_59, t75_62, t75_63, t75_64, t75_67, t75_70, t75_73, t75_74, t75_77, hnum, cbn_i, sz, KP, p2, nI_add, h80, q, ↓reduceIte, not_false_eq_true]
          exact l0
        have e1 : M1.2.2 = M.2.2 := by rw [hM1]; rfl
        have s1 : ∀ b, b ≠ S + 109 → b ≠ S + 110 → Same M M1 b := fun b h1 h2 => by
          rw [hM1]; exact ⟨by rw [mI_sI, if_neg h1, mI_sI, if_neg h2], rfl⟩
        have m154 := (s1 (S + 154) (by omega) (by omega)).1
        have m148 := (s1 (S + 148) (by omega) (by omega)).1
        obtain ⟨M2, hM2⟩ : ∃ M2, M2 = sI (sI M1 (S + 148 + 6) (apR (mI M (S + 154)) c l s s)) (S + 148) (va_up (mI M (S + 148)) 7 (nI (l + s))) := ⟨_, rfl⟩
        have lpB : ∀ t, t ≤ s → rn 161 105 [some (.ref (S + 148)), some (.long c), none, some (.int (nI s)), some (.long (rs c s)), none, some (.int 1), some (.int (nI t - 1))] [] (sI (sI M1 (S + 148 + 6) (apR (mI M (S + 154)) c l s (s - t))) (S + 148) (va_up (mI M (S + 148)) 7 (nI (l + (s - t))))) = some (some (.int (nI (l + s))), M2) := by
          intro t
          induction t with
          | zero =>
            intro _
            rw [t161_105, Nat.sub_zero, ← hM2]
            have e1' : M2.2.2 = M.2.2 := by rw [hM2]; exact e1
            have e2 : mI M2 (S + 148) 7 = nI (l + s) := by rw [hM2, mI_sI, if_pos rfl, va_up_self]
            simp only [t161_0, t161_1, t161_2, t161_3, t161_5, t161_6, t161_9, t161_11, t161_14, t161_16, t161_19, t161_20, t161_21, t161_22, t161_25, t161_27, t161_30, t161_32, t161_35, t161_36, t161_37, t161_39, t161_41, t161_44, t161_47, t161_48, t161_51, t161_52, t161_54, t161_56, t161_58, t161_59, t161_61, t161_64, t161_67, t161_68, t161_71, t161_73, t161_76, t161_78, t161_79, t161_80, t161_83, t161_85, t161_86, t161_87, t161_90, t161_91, t161_92, t161_94, t161_97, t161_99, t161_100, t161_101, t161_102, t161_103, t161_107, t161_110, t161_111, t161_114, t161_115, t161_118, t161_119, t161_121, t161_123, t161_124, t161_125, t161_128, t161_129, t161_130, t161_131, t161_132, t161_133, t161_136, t161_137, t161_138, t161_141, t161_144, t161_147, t161_148, t161_151, hm1, KK e1', MM.1, e2, ↓reduceIte]
          | succ t ih =>
            intro ht
            have ih := ih (by omega)
            have i1 : inR (nI (l + (s - (t + 1)))) 80 = True := i_inT (by omega) (by decide)
            have hup := apR_up (mI M (S + 154)) c l s (s - (t + 1))
            rw [show s - 1 - (s - (t + 1)) = t by omega, show s - (t + 1) + 1 = s - t by omega] at hup
            have x1 : ¬ S + 148 = S + 148 + 6 := by omega
            have x2 : ¬ S + 148 + 6 = S + 148 := by omega
            rw [t161_105, nI_pred]
            have hmm : sI (sI (sI (sI M1 (S + 148 + 6) (apR (mI M (S + 154)) c l s (s - (t + 1)))) (S + 148) (va_up (mI M (S + 148)) 7 (nI (l + (s - (t + 1)))))) (S + 148 + 6) (apR (mI M (S + 154)) c l s (s - t))) (S + 148) (va_up (mI M (S + 148)) 7 (nI (l + (s - t)))) = sI (sI M1 (S + 148 + 6) (apR (mI M (S + 154)) c l s (s - t))) (S + 148) (va_up (mI M (S + 148)) 7 (nI (l + (s - t)))) := by
              rw [sI_comm _ (show S + 148 ≠ S + 148 + 6 by omega), sI_sI, sI_sI]
            have hnx : nI (l + (s - (t + 1))) + 1 = nI (l + (s - t)) := by rw [n1, show l + (s - (t + 1)) + 1 = l + (s - t) by omega]
            simp only [t161_0, t161_1, t161_2, t161_3, t161_5, t161_6, t161_9, t161_11, t161_14, t161_16, t161_19, t161_20, t161_21, t161_22, t161_25, t161_27, t161_30, t161_32, t161_35, t161_36, t161_37, t161_39, t161_41, t161_44, t161_47, t161_48, t161_51, t161_52, t161_54, t161_56, t161_58, t161_59, t161_61, t161_64, t161_67, t161_68, t161_71, t161_73, t161_76, t161_78, t161_79, t161_80, t161_83, t161_85, t161_86, t161_87, t161_90, t161_91, t161_92, t161_94, t161_97, t161_99, t161_100, t161_101, t161_102, t161_103, t161_107, t161_110, t161_111, t161_114, t161_115, t161_118, t161_119, t161_121, t161_123, t161_124, t161_125, t161_128, t161_129, t161_130, t161_131, t161_132, t161_133, t161_136, t161_137, t161_138, t161_141, t161_144, t161_147, t161_148, t161_151, lt0 (show t < 2147483648 by omega), ↓reduceIte, mK_sI, mP_sI, KK e1, PK e1, MM.1, MM.2.2.2.2.2.2.1, MM.2.2.2.2.2.2.2.2.2.2.2.2.2.2.2.1, va_rf_s, mI_sI, x1, x2, va_up_self, i1, and_self, nI_c (show l + (s - (t + 1)) < 2147483648 by omega), hshift2 t (by omega), chd, hup, hnx, va_up2, hmm, dec]
            exact ih
        refine ⟨nI (l + s), M1, M2, ⟨e1, fun b hb => (s1 b (by omega) (by omega)).1⟩, ?_, ?_, ?_⟩
        · show rn 74 0 [some (.ref S), some (.long c), none] [] M = _
          simp only [t74_0, t74_1, t74_4, t74_7, t74_8, t74_11, K0, P3, KD, P4, KP, va_rf_s, hcA, cbn_i, ↓reduceIte]
        · have hmn1 := m_number c M1 (S + 148) none 8 0 rfl
          rw [show nI 0 = 0 from rfl, show rs c 0 = c from rfl, hb] at hmn1
          have l0 := lpB s (Nat.le_refl _)
          have y1 : mI M1 (S + 148 + 6) = mI M (S + 154) := m154
          have x1 : va_up (mI M (S + 148)) 7 (nI l) = mI M (S + 148) := by rw [← p3]; exact va_up_id _ _
          rw [Nat.sub_self, apR_0, ← y1, sI_self, Nat.add_zero l, x1, ← m148, sI_self] at l0
          have p37 : mI M1 (S + 148) 7 = nI l := by rw [m148]; exact p3
          show rn 161 0 [some (.ref (S + 148)), some (.long c), none, none, none, none, none, none] [] M1 = _
          simp only [t161_0, t161_1, t161_2, t161_3, t161_5, t161_6]
          rw [hmn1]
          simp only [t161_67, t161_68, t161_71, t161_73, t161_76, t161_78, t161_79, t161_80, t161_86, t161_87, t161_90, t161_91, t161_92, t161_94, t161_100, t161_101, t161_102, t161_103, sz, hr0, lg_cmp_eq, one0, KK e1, MM.1, p37, nI_add, h80, q, ↓reduceIte] at l0 ⊢
          exact l0
        · have e2 : M2.2.2 = M.2.2 := by rw [hM2]; exact e1
          have s2 : ∀ b, b ≠ S + 109 → b ≠ S + 110 → b ≠ S + 154 → b ≠ S + 148 → Same M M2 b := fun b h1 h2 h3 h4 => by
            have := s1 b h1 h2
            rw [hM2]
            exact ⟨by rw [mI_sI, if_neg h4, mI_sI, if_neg h3]; exact this.1, this.2⟩
          have r148 : mI M2 (S + 148) = va_up (mI M (S + 148)) 7 (nI (l + s)) := by rw [hM2, mI_sI, if_pos rfl]
          have r108 : mI M2 (S + 109) = va_up (mI M (S + 109)) 1 (nI (l + s)) := by
            rw [hM2, mI_sI, if_neg (by omega), mI_sI, if_neg (by omega), hM1, mI_sI, if_pos rfl]
          have r109 : mI M2 (S + 110) = apR (mI M (S + 110)) c l s s := by
            rw [hM2, mI_sI, if_neg (by omega), mI_sI, if_neg (by omega), hM1, mI_sI, if_neg (by omega), mI_sI, if_pos rfl]
          have r154 : mI M2 (S + 154) = apR (mI M (S + 154)) c l s s := by
            rw [hM2, mI_sI, if_neg (by omega), show S + 154 = S + 148 + 6 from rfl, mI_sI, if_pos rfl]
          refine ⟨⟨hS.st e2, hist_eq hh (fun b hb => s2 b (by omega) (by omega) (by omega) (by omega)) ?_, slots_eq hs (fun b hb => s2 b (by omega) (by omega) (by omega) (by omega)), ⟨l + s, q, ?_, ?_, ?_⟩, ?_⟩, n, R, hR, ?_⟩
          · rw [r148, va_up_ne _ _ (by decide)]
          · rw [r108, va_up_self]
          · rw [r148, va_up_self]
          · intro j hj
            rw [r109, r154]
            unfold apR
            by_cases z : l ≤ j ∧ j < l + s
            · rw [if_pos z, if_pos z]
              have hg := hgood (s - 1 - (j - l)) (by omega) (by omega)
              refine ⟨rfl, ?_, ?_⟩
              · exact Int32.not_lt.mp (fun y => hg (Or.inl y))
              · exact Int32.not_lt.mp (fun y => hg (Or.inr y))
            · rw [if_neg z, if_neg z]
              exact p4 j (by omega)
          · rw [(s2 sb (by omega) (by omega) (by omega) (by omega)).1]; exact hx
          · rw [(s2 (S + 149) (by omega) (by omega) (by omega) (by omega)).1]
            exact SR_eq hN (fun b b1 b2 => s2 b (by omega) (by omega) (by omega) (by omega))
      · refine ⟨-4, M, M, Low.refl _ _, ?_, ?_, h⟩
        · have : cl 75 [.ref (S + 109), .long c] M = some (some (.int (-4)), M) := by
            show rn 75 0 [some (.ref (S + 109)), some (.long c), none, none, none] [] M = _
            simp only [t75_0, t75_1, t75_4, t75_5, t75_6, t75_9, t75_11, t75_12, t75_13, t75_16, t75_17, t75_18, t75_20, t75_23, t75_25, t75_26, t75_27, t75_28, t75_29, t75_33, t75_36, t75_37, t75_40, t75_41, t75_44, t75_45, t75_47, t75_49, t75_50, t75_51, t75_52, t75_55, t75_56, t75_57, t75_58, t75_59, t75_62, t75_63, t75_64, t75_67, t75_70, t75_73, t75_74, t75_77, hnum, cbn_i, sz, KP, p2, nI_add, h80, q, ↓reduceIte, not_false_eq_true]
          show rn 74 0 [some (.ref S), some (.long c), none] [] M = _
          simp only [t74_0, t74_1, t74_4, t74_7, t74_8, t74_11, K0, P3, KD, P4, KP, va_rf_s, this, cbn_i, ↓reduceIte]
        · rw [ref0, hmn]
          simp only [t161_67, t161_68, t161_71, t161_73, t161_76, t161_78, t161_79, t161_80, t161_86, t161_87, t161_90, t161_91, t161_92, t161_94, t161_97, t161_99, sz, hr0, lg_cmp_eq, one0, MM.1, p3', nI_add, h80, q, ↓reduceIte]
theorem p_wipe {M : SM} {S sb L B : Nat} {xs : Nat → Int32} (h : Rel M S sb L xs B) : PairI 77 162 [] M S sb L xs B := by
  obtain ⟨⟨K0, P0, P1, P2, P3, P4, P5, P6⟩, SN, ⟨KH, PH, KR, RG⟩, ⟨KL, SL⟩, ⟨KP, PP, KC⟩, ⟨KD, PD⟩, TQ, TW, MM, ⟨LO1, LO2, LO3, LO4⟩⟩ := id h.1.1
  obtain ⟨⟨hS, hh, hs, ⟨l, l80, p2, p3, p4⟩, hx⟩, n, R, hR, hN⟩ := id h
  obtain ⟨M1, hM1⟩ : ∃ M1, M1 = sI M (S + 109) (va_up (mI M (S + 109)) 1 0) := ⟨_, rfl⟩
  have e1 : M1.2.2 = M.2.2 := by rw [hM1]; rfl
  have s1 : ∀ b, b ≠ S + 109 → Same M M1 b := fun b h1 => by rw [hM1]; exact ⟨by rw [mI_sI, if_neg h1], rfl⟩
  have m148 := (s1 (S + 148) (by omega)).1
  obtain ⟨M2, hM2⟩ : ∃ M2, M2 = sI M1 (S + 148) (va_up (mI M1 (S + 148)) 7 0) := ⟨_, rfl⟩
  have e2 : M2.2.2 = M.2.2 := by rw [hM2]; exact e1
  have s2 : ∀ b, b ≠ S + 109 → b ≠ S + 148 → Same M M2 b := fun b h1 h4 => by
    have := s1 b h1
    rw [hM2]
    exact ⟨by rw [mI_sI, if_neg h4]; exact this.1, this.2⟩
  have r148 : mI M2 (S + 148) = va_up (mI M (S + 148)) 7 0 := by rw [hM2, mI_sI, if_pos rfl, m148]
  have r108 : mI M2 (S + 109) = va_up (mI M (S + 109)) 1 0 := by rw [hM2, mI_sI, if_neg (by omega), hM1, mI_sI, if_pos rfl]
  have hc : cl 78 [.ref (S + 109)] M = some (some (.int (nI l)), M1) := by
    show rn 78 0 [some (.ref (S + 109)), none] [] M = _
    simp only [t78_0, t78_1, t78_4, t78_5, t78_6, t78_7, t78_10, t78_11, KP, p2, ↓reduceIte]
    rw [← hM1]
  refine ⟨nI l, M1, M2, ⟨e1, fun b hb => (s1 b (by omega)).1⟩, ?_, ?_, ⟨⟨hS.st e2, hist_eq hh (fun b hb => s2 b (by omega) (by omega)) ?_, slots_eq hs (fun b hb => s2 b (by omega) (by omega)), ⟨0, by decide, ?_, ?_, fun j hj => by omega⟩, ?_⟩, n, R, hR, ?_⟩⟩
  · show rn 77 0 [some (.ref S)] [] M = _
    simp only [t77_0, t77_1, t77_4, t77_7, t77_10, K0, P3, KD, P4, KP, va_rf_s, hc, cbn_i, ↓reduceIte]
  · show rn 162 0 [some (.ref (S + 148)), none] [] M1 = _
    have p37 : mI M1 (S + 148) 7 = nI l := by rw [m148]; exact p3
    simp only [t162_0, t162_1, t162_4, t162_5, t162_6, t162_7, t162_10, t162_11, KK e1, MM.1, p37, ↓reduceIte]
    rw [← hM2]
  · rw [r148, va_up_ne _ _ (by decide)]
  · rw [r108, va_up_self]; rfl
  · rw [r148, va_up_self]; rfl
  · rw [(s2 sb (by omega) (by omega)).1]; exact hx
  · rw [(s2 (S + 149) (by omega) (by omega)).1]
    exact SR_eq hN (fun b b1 b2 => s2 b (by omega) (by omega))
