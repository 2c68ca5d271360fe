/-! ofEntry, ofFile -/
theorem p_ofEntry {M : SM} {S sb L B : Nat} {xs : Nat → Int32} (h : Rel M S sb L xs B) (x y : Int32) : PairI 59 146 [.int x, .int y] M S sb L xs B := by
  obtain ⟨⟨K0, P0, P1, P2, P3, P4, P5, P6⟩, SN, ⟨KH, PH, KR, RG⟩, ⟨KL, SL⟩, ⟨KP, PP, KC⟩, ⟨KD, PD⟩, TQ, TW, MM, ⟨LO1, LO2, LO3, LO4⟩⟩ := id h.1.1
  obtain ⟨hX, n, R, hR, hN⟩ := id h
  have n40 := hN.1.2.1
  obtain ⟨q1, q2, q3, q4, q5⟩ := SN
  have hsz := hN.1.1
  have hw0 : mI M (S + 148 + 1) 0 = nI n := hN.1.2.2.1
  have hLm : LR M (S + 1 + 1) (mI M (S + 148 + 1)) n := hN.1
  have hm0 : inR 0 370 = True := eq_true (by decide)
  have z0 : (0 : Int32).toNatClampNeg = 0 := by decide
  have one0 : ((1 : Int32) = 0) = False := by decide
  have hl := c_lhas q4 x
  rw [hsz] at hl
  have hi := c_mEntry MM hw0 n40 x
  by_cases q : x < 0 ∨ nI n ≤ x
  · refine ⟨-1, M, M, Low.refl _ _, ?_, ?_, h⟩
    · show rn 59 0 [some (.ref S), some (.int x), some (.int y), none] [] M = _
      simp only [t59_0, t59_1, t59_4, t59_7, t59_8, t59_9, t59_10, t59_13, t59_16, t59_17, t59_18, t59_19, t59_68, t59_69, t59_72, t59_73, t59_74, t59_75, t59_76, t59_79, t59_80, t59_81, t59_82, t59_83, t59_86, t59_87, t59_88, t59_89, t59_90, t59_93, t59_94, t59_97, t59_100, t59_101, t59_104, t59_105, t59_106, t59_107, t59_110, t59_111, t59_114, t59_117, t59_118, t59_121, t59_122, t59_123, t59_124, t59_127, t59_130, t59_133, t59_134, t59_135, t59_136, t59_137, t59_140, t59_143, t59_146, t59_147, t59_148, t59_149, t59_150, t59_153, t59_154, t59_155, t59_158, t59_159, t59_160, t59_161, t59_164, t59_165, t59_167, K0, P0, q1, q2, q4.1, va_rf_s, hl, cbn_i, q, ↓reduceIte, not_true_eq_false]
    · show rn 146 0 [some (.ref (S + 148)), some (.int x), some (.int y)] [] M = _
      simp only [t146_0, t146_1, t146_2, t146_5, t146_8, t146_9, t146_10, t146_11, t146_60, t146_61, t146_62, t146_63, t146_66, t146_67, t146_68, t146_69, t146_72, t146_75, t146_76, t146_77, t146_78, t146_79, t146_80, t146_81, t146_82, t146_83, t146_84, t146_87, t146_88, t146_89, t146_90, t146_91, t146_94, t146_95, t146_96, t146_97, t146_100, t146_103, t146_104, t146_105, t146_106, t146_109, t146_110, t146_112, MM.1, hi, cbn_i, q, ↓reduceIte, not_true_eq_false]
  · obtain ⟨e, he, rfl⟩ := ent_of (n := n) (by omega) q
    have e40 : e < 40 := by omega
    have hin : inR (nI e) 40 = True := i_inT e40 (by decide)
    have hce := nI_c (show e < 2147483648 by omega)
    have h129 := c_lostOnes MM hLm
    have h130 := c_orphansRel MM hLm (mJ M (S + 1 + 1) 1)
    have hor := c_orphans q4 hsz n40
    obtain ⟨r0, r1, r2⟩ := hN.1.2.2.2.2.1 e he
    have r3 := hN.1.2.2.2.2.2.1 e he
    obtain ⟨r4, r5, -⟩ := hN.2.2.2.1 e he
    have rd := hN.1.2.2.2.2.2.2.2.1 e he
    have a1 : (1 : Int64).toInt32 = 1 := by decide
    have a0 : (0 : Int64).toInt32 = 0 := by decide
    have pt : ∀ p, p < 8 → cl 111 [.ref (S + 148), .int (nI e), .int (nI p)] M = some (some (.int (mI M (S + 149) (2 + 8 * e + p))), M) := fun p hp => c_part MM e40 hp
    rcases cases9 y with hy | hy | hy | hy | hy | hy | hy | hy | hy | hy
    · skip
      have t0 : (y = 0) = True := by rw [hy]; decide
      have hp : cl 111 [.ref (S + 148), .int (nI e), .int y] M = some (some (.int (mI M (S + 149) (2 + 8 * e))), M) := by rw [hy]; exact pt 0 (by decide)
      rw [r0] at hp
      refine ⟨mI M (S + 1 + 1 + 1) e, M, M, Low.refl _ _, ?_, ?_, h⟩
      · show rn 59 0 [some (.ref S), some (.int (nI e)), some (.int y), none] [] M = _
        simp only [t59_0, t59_1, t59_4, t59_7, t59_8, t59_9, t59_10, t59_13, t59_16, t59_17, t59_18, t59_19, t59_68, t59_69, t59_72, t59_73, t59_74, t59_75, t59_76, t59_79, t59_80, t59_81, t59_82, t59_83, t59_86, t59_87, t59_88, t59_89, t59_90, t59_93, t59_94, t59_97, t59_100, t59_101, t59_104, t59_105, t59_106, t59_107, t59_110, t59_111, t59_114, t59_117, t59_118, t59_121, t59_122, t59_123, t59_124, t59_127, t59_130, t59_133, t59_134, t59_135, t59_136, t59_137, t59_140, t59_143, t59_146, t59_147, t59_148, t59_149, t59_150, t59_153, t59_154, t59_155, t59_158, t59_159, t59_160, t59_161, t59_164, t59_165, t59_167, t0, ↓reduceIte, K0, P0, q1, q2, q3, q4.1, q5.1, va_rf_s, hl, q, not_true_eq_false, not_false_eq_true, one0, cbn_i, cbn_v, q4.2.1, q4.2.2.2.2.2.2.1, true_or, hin, and_self, hce]
      · show rn 146 0 [some (.ref (S + 148)), some (.int (nI e)), some (.int y)] [] M = _
        simp only [t146_0, t146_1, t146_2, t146_5, t146_8, t146_9, t146_10, t146_11, t146_60, t146_61, t146_62, t146_63, t146_66, t146_67, t146_68, t146_69, t146_72, t146_75, t146_76, t146_77, t146_78, t146_79, t146_80, t146_81, t146_82, t146_83, t146_84, t146_87, t146_88, t146_89, t146_90, t146_91, t146_94, t146_95, t146_96, t146_97, t146_100, t146_103, t146_104, t146_105, t146_106, t146_109, t146_110, t146_112, t0, ↓reduceIte, MM.1, hi, q, not_true_eq_false, not_false_eq_true, one0, cbn_i, cbn_v, hp]
    · skip
      have t0 : (y = 0) = False := by rw [hy]; decide
      have t1 : (y = 1) = True := by rw [hy]; decide
      have hp : cl 111 [.ref (S + 148), .int (nI e), .int y] M = some (some (.int (mI M (S + 149) (2 + 8 * e + 1))), M) := by rw [hy]; exact pt 1 (by decide)
      rw [r1] at hp
      refine ⟨mI M (S + 1 + 1 + 2) e, M, M, Low.refl _ _, ?_, ?_, h⟩
      · show rn 59 0 [some (.ref S), some (.int (nI e)), some (.int y), none] [] M = _
        simp only [t59_0, t59_1, t59_4, t59_7, t59_8, t59_9, t59_10, t59_13, t59_16, t59_17, t59_18, t59_19, t59_68, t59_69, t59_72, t59_73, t59_74, t59_75, t59_76, t59_79, t59_80, t59_81, t59_82, t59_83, t59_86, t59_87, t59_88, t59_89, t59_90, t59_93, t59_94, t59_97, t59_100, t59_101, t59_104, t59_105, t59_106, t59_107, t59_110, t59_111, t59_114, t59_117, t59_118, t59_121, t59_122, t59_123, t59_124, t59_127, t59_130, t59_133, t59_134, t59_135, t59_136, t59_137, t59_140, t59_143, t59_146, t59_147, t59_148, t59_149, t59_150, t59_153, t59_154, t59_155, t59_158, t59_159, t59_160, t59_161, t59_164, t59_165, t59_167, t0, t1, ↓reduceIte, K0, P0, q1, q2, q3, q4.1, q5.1, va_rf_s, hl, q, not_true_eq_false, not_false_eq_true, one0, cbn_i, cbn_v, q4.2.2.1, q4.2.2.2.2.2.2.2.1, true_or, hin, and_self, hce]
      · show rn 146 0 [some (.ref (S + 148)), some (.int (nI e)), some (.int y)] [] M = _
        simp only [t146_0, t146_1, t146_2, t146_5, t146_8, t146_9, t146_10, t146_11, t146_60, t146_61, t146_62, t146_63, t146_66, t146_67, t146_68, t146_69, t146_72, t146_75, t146_76, t146_77, t146_78, t146_79, t146_80, t146_81, t146_82, t146_83, t146_84, t146_87, t146_88, t146_89, t146_90, t146_91, t146_94, t146_95, t146_96, t146_97, t146_100, t146_103, t146_104, t146_105, t146_106, t146_109, t146_110, t146_112, t0, t1, ↓reduceIte, MM.1, hi, q, not_true_eq_false, not_false_eq_true, one0, cbn_i, cbn_v, hp]
    · skip
      have t0 : (y = 0) = False := by rw [hy]; decide
      have t1 : (y = 1) = False := by rw [hy]; decide
      have t2 : (y = 2) = True := by rw [hy]; decide
      have hp : cl 111 [.ref (S + 148), .int (nI e), .int y] M = some (some (.int (mI M (S + 149) (2 + 8 * e + 2))), M) := by rw [hy]; exact pt 2 (by decide)
      rw [r2] at hp
      refine ⟨mI M (S + 1 + 1 + 3) e, M, M, Low.refl _ _, ?_, ?_, h⟩
      · show rn 59 0 [some (.ref S), some (.int (nI e)), some (.int y), none] [] M = _
        simp only [t59_0, t59_1, t59_4, t59_7, t59_8, t59_9, t59_10, t59_13, t59_16, t59_17, t59_18, t59_19, t59_68, t59_69, t59_72, t59_73, t59_74, t59_75, t59_76, t59_79, t59_80, t59_81, t59_82, t59_83, t59_86, t59_87, t59_88, t59_89, t59_90, t59_93, t59_94, t59_97, t59_100, t59_101, t59_104, t59_105, t59_106, t59_107, t59_110, t59_111, t59_114, t59_117, t59_118, t59_121, t59_122, t59_123, t59_124, t59_127, t59_130, t59_133, t59_134, t59_135, t59_136, t59_137, t59_140, t59_143, t59_146, t59_147, t59_148, t59_149, t59_150, t59_153, t59_154, t59_155, t59_158, t59_159, t59_160, t59_161, t59_164, t59_165, t59_167, t0, t1, t2, ↓reduceIte, K0, P0, q1, q2, q3, q4.1, q5.1, va_rf_s, hl, q, not_true_eq_false, not_false_eq_true, one0, cbn_i, cbn_v, q4.2.2.2.1, q4.2.2.2.2.2.2.2.2.1, true_or, hin, and_self, hce]
      · show rn 146 0 [some (.ref (S + 148)), some (.int (nI e)), some (.int y)] [] M = _
        simp only [t146_0, t146_1, t146_2, t146_5, t146_8, t146_9, t146_10, t146_11, t146_60, t146_61, t146_62, t146_63, t146_66, t146_67, t146_68, t146_69, t146_72, t146_75, t146_76, t146_77, t146_78, t146_79, t146_80, t146_81, t146_82, t146_83, t146_84, t146_87, t146_88, t146_89, t146_90, t146_91, t146_94, t146_95, t146_96, t146_97, t146_100, t146_103, t146_104, t146_105, t146_106, t146_109, t146_110, t146_112, t0, t1, t2, ↓reduceIte, MM.1, hi, q, not_true_eq_false, not_false_eq_true, one0, cbn_i, cbn_v, hp]
    · skip
      have t0 : (y = 0) = False := by rw [hy]; decide
      have t1 : (y = 1) = False := by rw [hy]; decide
      have t2 : (y = 2) = False := by rw [hy]; decide
      have t3 : (y = 3) = True := by rw [hy]; decide
      have hp : cl 111 [.ref (S + 148), .int (nI e), .int y] M = some (some (.int (mI M (S + 149) (2 + 8 * e + 3))), M) := by rw [hy]; exact pt 3 (by decide)
      rw [r3] at hp
      have ho := c_holds (mJ M (S + 1 + 1) 1) (k := e) (by omega) M
      refine ⟨if bt (mJ M (S + 1 + 1) 1) e = true then 1 else 0, M, M, Low.refl _ _, ?_, ?_, h⟩
      · show rn 59 0 [some (.ref S), some (.int (nI e)), some (.int y), none] [] M = _
        cases hb : bt (mJ M (S + 1 + 1) 1) e <;> rw [hb] at ho <;> simp only [t59_0, t59_1, t59_4, t59_7, t59_8, t59_9, t59_10, t59_13, t59_16, t59_17, t59_18, t59_19, t59_68, t59_69, t59_72, t59_73, t59_74, t59_75, t59_76, t59_79, t59_80, t59_81, t59_82, t59_83, t59_86, t59_87, t59_88, t59_89, t59_90, t59_93, t59_94, t59_97, t59_100, t59_101, t59_104, t59_105, t59_106, t59_107, t59_110, t59_111, t59_114, t59_117, t59_118, t59_121, t59_122, t59_123, t59_124, t59_127, t59_130, t59_133, t59_134, t59_135, t59_136, t59_137, t59_140, t59_143, t59_146, t59_147, t59_148, t59_149, t59_150, t59_153, t59_154, t59_155, t59_158, t59_159, t59_160, t59_161, t59_164, t59_165, t59_167, t0, t1, t2, t3, ho, ↓reduceIte, Bool.false_eq_true, K0, P0, q1, q2, q3, q4.1, q5.1, va_rf_s, hl, q, not_true_eq_false, not_false_eq_true, one0, cbn_i, cbn_v]
      · show rn 146 0 [some (.ref (S + 148)), some (.int (nI e)), some (.int y)] [] M = _
        simp only [t146_0, t146_1, t146_2, t146_5, t146_8, t146_9, t146_10, t146_11, t146_60, t146_61, t146_62, t146_63, t146_66, t146_67, t146_68, t146_69, t146_72, t146_75, t146_76, t146_77, t146_78, t146_79, t146_80, t146_81, t146_82, t146_83, t146_84, t146_87, t146_88, t146_89, t146_90, t146_91, t146_94, t146_95, t146_96, t146_97, t146_100, t146_103, t146_104, t146_105, t146_106, t146_109, t146_110, t146_112, t0, t1, t2, t3, ↓reduceIte, MM.1, hi, q, not_true_eq_false, not_false_eq_true, one0, cbn_i, cbn_v, hp]
    · skip
      have t0 : (y = 0) = False := by rw [hy]; decide
      have t1 : (y = 1) = False := by rw [hy]; decide
      have t2 : (y = 2) = False := by rw [hy]; decide
      have t3 : (y = 3) = False := by rw [hy]; decide
      have t4 : (y = 4) = True := by rw [hy]; decide
      have ho := c_holds (orpB (mJ M (S + 1 + 1 + 5)) n (mJ M (S + 1 + 1) 1)) (k := e) (by omega) M
      have hb := bt_read (x := orpB (mJ M (S + 1 + 1 + 5)) n (mJ M (S + 1 + 1) 1)) (k := e) (by omega)
      refine ⟨if bt (orpB (mJ M (S + 1 + 1 + 5)) n (mJ M (S + 1 + 1) 1)) e = true then 1 else 0, M, flM M (S + 148) n, Low.refl _ _, ?_, ?_, h.flM n⟩
      · show rn 59 0 [some (.ref S), some (.int (nI e)), some (.int y), none] [] M = _
        cases hb : bt (orpB (mJ M (S + 1 + 1 + 5)) n (mJ M (S + 1 + 1) 1)) e <;> rw [hb] at ho <;> simp only [t59_0, t59_1, t59_4, t59_7, t59_8, t59_9, t59_10, t59_13, t59_16, t59_17, t59_18, t59_19, t59_68, t59_69, t59_72, t59_73, t59_74, t59_75, t59_76, t59_79, t59_80, t59_81, t59_82, t59_83, t59_86, t59_87, t59_88, t59_89, t59_90, t59_93, t59_94, t59_97, t59_100, t59_101, t59_104, t59_105, t59_106, t59_107, t59_110, t59_111, t59_114, t59_117, t59_118, t59_121, t59_122, t59_123, t59_124, t59_127, t59_130, t59_133, t59_134, t59_135, t59_136, t59_137, t59_140, t59_143, t59_146, t59_147, t59_148, t59_149, t59_150, t59_153, t59_154, t59_155, t59_158, t59_159, t59_160, t59_161, t59_164, t59_165, t59_167, t0, t1, t2, t3, t4, hor, ho, ↓reduceIte, Bool.false_eq_true, K0, P0, q1, q2, q3, q4.1, q5.1, va_rf_s, hl, q, not_true_eq_false, not_false_eq_true, one0, cbn_i, cbn_v]
      · show rn 146 0 [some (.ref (S + 148)), some (.int (nI e)), some (.int y)] [] M = _
        simp only [t146_0, t146_1, t146_2, t146_5, t146_8, t146_9, t146_10, t146_11, t146_60, t146_61, t146_62, t146_63, t146_66, t146_67, t146_68, t146_69, t146_72, t146_75, t146_76, t146_77, t146_78, t146_79, t146_80, t146_81, t146_82, t146_83, t146_84, t146_87, t146_88, t146_89, t146_90, t146_91, t146_94, t146_95, t146_96, t146_97, t146_100, t146_103, t146_104, t146_105, t146_106, t146_109, t146_110, t146_112, t0, t1, t2, t3, t4, h129, h130, hb, ↓reduceIte, MM.1, hi, q, not_true_eq_false, not_false_eq_true, one0, cbn_i, cbn_v]
        cases hb2 : bt (orpB (mJ M (S + 1 + 1 + 5)) n (mJ M (S + 1 + 1) 1)) e <;> simp only [↓reduceIte, Bool.false_eq_true, a0, a1]
    · skip
      have t0 : (y = 0) = False := by rw [hy]; decide
      have t1 : (y = 1) = False := by rw [hy]; decide
      have t2 : (y = 2) = False := by rw [hy]; decide
      have t3 : (y = 3) = False := by rw [hy]; decide
      have t4 : (y = 4) = False := by rw [hy]; decide
      have t5 : (y = 5) = True := by rw [hy]; decide
      have hp : cl 111 [.ref (S + 148), .int (nI e), .int 4] M = some (some (.int (mI M (S + 149) (2 + 8 * e + 4))), M) := pt 4 (by decide)
      rw [r4] at hp
      refine ⟨mI M (S + 1 + 7 + 1) e, M, M, Low.refl _ _, ?_, ?_, h⟩
      · show rn 59 0 [some (.ref S), some (.int (nI e)), some (.int y), none] [] M = _
        simp only [t59_0, t59_1, t59_4, t59_7, t59_8, t59_9, t59_10, t59_13, t59_16, t59_17, t59_18, t59_19, t59_68, t59_69, t59_72, t59_73, t59_74, t59_75, t59_76, t59_79, t59_80, t59_81, t59_82, t59_83, t59_86, t59_87, t59_88, t59_89, t59_90, t59_93, t59_94, t59_97, t59_100, t59_101, t59_104, t59_105, t59_106, t59_107, t59_110, t59_111, t59_114, t59_117, t59_118, t59_121, t59_122, t59_123, t59_124, t59_127, t59_130, t59_133, t59_134, t59_135, t59_136, t59_137, t59_140, t59_143, t59_146, t59_147, t59_148, t59_149, t59_150, t59_153, t59_154, t59_155, t59_158, t59_159, t59_160, t59_161, t59_164, t59_165, t59_167, t0, t1, t2, t3, t4, t5, ↓reduceIte, K0, P0, q1, q2, q3, q4.1, q5.1, va_rf_s, hl, q, not_true_eq_false, not_false_eq_true, one0, cbn_i, cbn_v, q5.2.1, q5.2.2.2.2.1, true_or, hin, and_self, hce]
      · show rn 146 0 [some (.ref (S + 148)), some (.int (nI e)), some (.int y)] [] M = _
        simp only [t146_0, t146_1, t146_2, t146_5, t146_8, t146_9, t146_10, t146_11, t146_60, t146_61, t146_62, t146_63, t146_66, t146_67, t146_68, t146_69, t146_72, t146_75, t146_76, t146_77, t146_78, t146_79, t146_80, t146_81, t146_82, t146_83, t146_84, t146_87, t146_88, t146_89, t146_90, t146_91, t146_94, t146_95, t146_96, t146_97, t146_100, t146_103, t146_104, t146_105, t146_106, t146_109, t146_110, t146_112, t0, t1, t2, t3, t4, t5, ↓reduceIte, MM.1, hi, q, not_true_eq_false, not_false_eq_true, one0, cbn_i, cbn_v, hp]
    · skip
      have t0 : (y = 0) = False := by rw [hy]; decide
      have t1 : (y = 1) = False := by rw [hy]; decide
      have t2 : (y = 2) = False := by rw [hy]; decide
      have t3 : (y = 3) = False := by rw [hy]; decide
      have t4 : (y = 4) = False := by rw [hy]; decide
      have t5 : (y = 5) = False := by rw [hy]; decide
      have t6 : (y = 6) = True := by rw [hy]; decide
      have hp : cl 111 [.ref (S + 148), .int (nI e), .int 5] M = some (some (.int (mI M (S + 149) (2 + 8 * e + 5))), M) := pt 5 (by decide)
      rw [r5] at hp
      refine ⟨mI M (S + 1 + 7 + 2) e, M, M, Low.refl _ _, ?_, ?_, h⟩
      · show rn 59 0 [some (.ref S), some (.int (nI e)), some (.int y), none] [] M = _
        simp only [t59_0, t59_1, t59_4, t59_7, t59_8, t59_9, t59_10, t59_13, t59_16, t59_17, t59_18, t59_19, t59_68, t59_69, t59_72, t59_73, t59_74, t59_75, t59_76, t59_79, t59_80, t59_81, t59_82, t59_83, t59_86, t59_87, t59_88, t59_89, t59_90, t59_93, t59_94, t59_97, t59_100, t59_101, t59_104, t59_105, t59_106, t59_107, t59_110, t59_111, t59_114, t59_117, t59_118, t59_121, t59_122, t59_123, t59_124, t59_127, t59_130, t59_133, t59_134, t59_135, t59_136, t59_137, t59_140, t59_143, t59_146, t59_147, t59_148, t59_149, t59_150, t59_153, t59_154, t59_155, t59_158, t59_159, t59_160, t59_161, t59_164, t59_165, t59_167, t0, t1, t2, t3, t4, t5, t6, ↓reduceIte, K0, P0, q1, q2, q3, q4.1, q5.1, va_rf_s, hl, q, not_true_eq_false, not_false_eq_true, one0, cbn_i, cbn_v, q5.2.2.1, q5.2.2.2.2.2.1, true_or, hin, and_self, hce]
      · show rn 146 0 [some (.ref (S + 148)), some (.int (nI e)), some (.int y)] [] M = _
        simp only [t146_0, t146_1, t146_2, t146_5, t146_8, t146_9, t146_10, t146_11, t146_60, t146_61, t146_62, t146_63, t146_66, t146_67, t146_68, t146_69, t146_72, t146_75, t146_76, t146_77, t146_78, t146_79, t146_80, t146_81, t146_82, t146_83, t146_84, t146_87, t146_88, t146_89, t146_90, t146_91, t146_94, t146_95, t146_96, t146_97, t146_100, t146_103, t146_104, t146_105, t146_106, t146_109, t146_110, t146_112, t0, t1, t2, t3, t4, t5, t6, ↓reduceIte, MM.1, hi, q, not_true_eq_false, not_false_eq_true, one0, cbn_i, cbn_v, hp]
    · skip
      have t0 : (y = 0) = False := by rw [hy]; decide
      have t1 : (y = 1) = False := by rw [hy]; decide
      have t2 : (y = 2) = False := by rw [hy]; decide
      have t3 : (y = 3) = False := by rw [hy]; decide
      have t4 : (y = 4) = False := by rw [hy]; decide
      have t5 : (y = 5) = False := by rw [hy]; decide
      have t6 : (y = 6) = False := by rw [hy]; decide
      have t7 : (y = 7) = True := by rw [hy]; decide
      have hd := c_deps MM e40
      rw [show dpN (mI M (S + 148 + 1) (2 + 8 * e + 6)) (mI M (S + 148 + 1) (2 + 8 * e + 7)) = mJ M (S + 1 + 1 + 4) e from rd] at hd
      have hc := cnt_40 n40 (fun k hk => Nat.lt_trans (hN.1.2.2.2.2.2.2.2.2.1 e he k hk) he)
      refine ⟨nI (cnt (bt (mJ M (S + 1 + 1 + 4) e)) 64), M, M, Low.refl _ _, ?_, ?_, h⟩
      · show rn 59 0 [some (.ref S), some (.int (nI e)), some (.int y), none] [] M = _
        simp only [t59_0, t59_1, t59_4, t59_7, t59_8, t59_9, t59_10, t59_13, t59_16, t59_17, t59_18, t59_19, t59_68, t59_69, t59_72, t59_73, t59_74, t59_75, t59_76, t59_79, t59_80, t59_81, t59_82, t59_83, t59_86, t59_87, t59_88, t59_89, t59_90, t59_93, t59_94, t59_97, t59_100, t59_101, t59_104, t59_105, t59_106, t59_107, t59_110, t59_111, t59_114, t59_117, t59_118, t59_121, t59_122, t59_123, t59_124, t59_127, t59_130, t59_133, t59_134, t59_135, t59_136, t59_137, t59_140, t59_143, t59_146, t59_147, t59_148, t59_149, t59_150, t59_153, t59_154, t59_155, t59_158, t59_159, t59_160, t59_161, t59_164, t59_165, t59_167, t0, t1, t2, t3, t4, t5, t6, t7, ↓reduceIte, K0, P0, q1, q2, q3, q4.1, q5.1, va_rf_s, hl, q, not_true_eq_false, not_false_eq_true, one0, cbn_i, cbn_v, q4.2.2.2.2.1, q4.2.2.2.2.2.2.2.2.2.1, c_bitCount, true_or, hin, and_self, hce]
      · show rn 146 0 [some (.ref (S + 148)), some (.int (nI e)), some (.int y)] [] M = _
        simp only [t146_0, t146_1, t146_2, t146_5, t146_8, t146_9, t146_10, t146_11, t146_60, t146_61, t146_62, t146_63, t146_66, t146_67, t146_68, t146_69, t146_72, t146_75, t146_76, t146_77, t146_78, t146_79, t146_80, t146_81, t146_82, t146_83, t146_84, t146_87, t146_88, t146_89, t146_90, t146_91, t146_94, t146_95, t146_96, t146_97, t146_100, t146_103, t146_104, t146_105, t146_106, t146_109, t146_110, t146_112, t0, t1, t2, t3, t4, t5, t6, t7, ↓reduceIte, MM.1, hi, q, not_true_eq_false, not_false_eq_true, one0, cbn_i, cbn_v, hd, c_bits, hc]
    · skip
      have t0 : (y = 0) = False := by rw [hy]; decide
      have t1 : (y = 1) = False := by rw [hy]; decide
      have t2 : (y = 2) = False := by rw [hy]; decide
      have t3 : (y = 3) = False := by rw [hy]; decide
      have t4 : (y = 4) = False := by rw [hy]; decide
      have t5 : (y = 5) = False := by rw [hy]; decide
      have t6 : (y = 6) = False := by rw [hy]; decide
      have t7 : (y = 7) = False := by rw [hy]; decide
      have t8 : (y = 8) = True := by rw [hy]; decide
      have hlo := c_leaningOn q4 hsz n40 he
      have hle := c_leanOn MM hw0 n40 e40
      have hcc : cnt (fun k => bt (rG M (S + 148) n k) e) n = cnt (fun k => decide (e < k) && bt (mJ M (S + 1 + 1 + 5) k) e) n := cnt_cong (fun k hk => by
        rw [rG_eq hLm k hk]
        cases hb : bt (mJ M (S + 1 + 1 + 5) k) e with
        | false => simp
        | true => simp [lns_b hN.1.2 k hk e hb])
      rw [hcc] at hle
      refine ⟨nI (cnt (fun k => decide (e < k) && bt (mJ M (S + 1 + 1 + 5) k) e) n), M, flM M (S + 148) n, Low.refl _ _, ?_, ?_, h.flM n⟩
      · show rn 59 0 [some (.ref S), some (.int (nI e)), some (.int y), none] [] M = _
        simp only [t59_0, t59_1, t59_4, t59_7, t59_8, t59_9, t59_10, t59_13, t59_16, t59_17, t59_18, t59_19, t59_68, t59_69, t59_72, t59_73, t59_74, t59_75, t59_76, t59_79, t59_80, t59_81, t59_82, t59_83, t59_86, t59_87, t59_88, t59_89, t59_90, t59_93, t59_94, t59_97, t59_100, t59_101, t59_104, t59_105, t59_106, t59_107, t59_110, t59_111, t59_114, t59_117, t59_118, t59_121, t59_122, t59_123, t59_124, t59_127, t59_130, t59_133, t59_134, t59_135, t59_136, t59_137, t59_140, t59_143, t59_146, t59_147, t59_148, t59_149, t59_150, t59_153, t59_154, t59_155, t59_158, t59_159, t59_160, t59_161, t59_164, t59_165, t59_167, t0, t1, t2, t3, t4, t5, t6, t7, t8, ↓reduceIte, K0, P0, q1, q2, q3, q4.1, q5.1, va_rf_s, hl, q, not_true_eq_false, not_false_eq_true, one0, cbn_i, cbn_v, hlo]
      · show rn 146 0 [some (.ref (S + 148)), some (.int (nI e)), some (.int y)] [] M = _
        simp only [t146_0, t146_1, t146_2, t146_5, t146_8, t146_9, t146_10, t146_11, t146_60, t146_61, t146_62, t146_63, t146_66, t146_67, t146_68, t146_69, t146_72, t146_75, t146_76, t146_77, t146_78, t146_79, t146_80, t146_81, t146_82, t146_83, t146_84, t146_87, t146_88, t146_89, t146_90, t146_91, t146_94, t146_95, t146_96, t146_97, t146_100, t146_103, t146_104, t146_105, t146_106, t146_109, t146_110, t146_112, t0, t1, t2, t3, t4, t5, t6, t7, t8, ↓reduceIte, MM.1, hi, q, not_true_eq_false, not_false_eq_true, one0, cbn_i, cbn_v, hle]
    · skip
      obtain ⟨t0, t1, t2, t3, t4, t5, t6, t7, t8⟩ := hy
      refine ⟨-2, M, M, Low.refl _ _, ?_, ?_, h⟩
      · show rn 59 0 [some (.ref S), some (.int (nI e)), some (.int y), none] [] M = _
        simp only [t59_0, t59_1, t59_4, t59_7, t59_8, t59_9, t59_10, t59_13, t59_16, t59_17, t59_18, t59_19, t59_68, t59_69, t59_72, t59_73, t59_74, t59_75, t59_76, t59_79, t59_80, t59_81, t59_82, t59_83, t59_86, t59_87, t59_88, t59_89, t59_90, t59_93, t59_94, t59_97, t59_100, t59_101, t59_104, t59_105, t59_106, t59_107, t59_110, t59_111, t59_114, t59_117, t59_118, t59_121, t59_122, t59_123, t59_124, t59_127, t59_130, t59_133, t59_134, t59_135, t59_136, t59_137, t59_140, t59_143, t59_146, t59_147, t59_148, t59_149, t59_150, t59_153, t59_154, t59_155, t59_158, t59_159, t59_160, t59_161, t59_164, t59_165, t59_167, t0, t1, t2, t3, t4, t5, t6, t7, t8, ↓reduceIte, K0, P0, q1, q2, q3, q4.1, q5.1, va_rf_s, hl, q, not_true_eq_false, not_false_eq_true, one0, cbn_i, cbn_v]
      · show rn 146 0 [some (.ref (S + 148)), some (.int (nI e)), some (.int y)] [] M = _
        simp only [t146_0, t146_1, t146_2, t146_5, t146_8, t146_9, t146_10, t146_11, t146_60, t146_61, t146_62, t146_63, t146_66, t146_67, t146_68, t146_69, t146_72, t146_75, t146_76, t146_77, t146_78, t146_79, t146_80, t146_81, t146_82, t146_83, t146_84, t146_87, t146_88, t146_89, t146_90, t146_91, t146_94, t146_95, t146_96, t146_97, t146_100, t146_103, t146_104, t146_105, t146_106, t146_109, t146_110, t146_112, t0, t1, t2, t3, t4, t5, t6, t7, t8, ↓reduceIte, MM.1, hi, q, not_true_eq_false, not_false_eq_true, one0, cbn_i, cbn_v]
theorem mFileEq (x : Int32) : (x < 0 ∨ 15 < x) = (x < 0 ∨ 16 ≤ x) := (r_d x).symm
theorem p_ofFile {M : SM} {S sb L B : Nat} {xs : Nat → Int32} (h : Rel M S sb L xs B) (x y : Int32) : PairI 62 149 [.int x, .int y] M S sb L xs B := by
  obtain ⟨⟨K0, P0, P1, P2, P3, P4, P5, P6⟩, SN, ⟨KH, PH, KR, RG⟩, ⟨KL, SL⟩, ⟨KP, PP, KC⟩, ⟨KD, PD⟩, TQ, TW, MM, ⟨LO1, LO2, LO3, LO4⟩⟩ := id h.1.1
  obtain ⟨hX, n, R, hR, hN⟩ := id h
  have n40 := hN.1.2.1
  obtain ⟨q1, q2, q3, q4, q5⟩ := SN
  have hsz := hN.1.1
  have hw0 : mI M (S + 148 + 1) 0 = nI n := hN.1.2.2.1
  have hLm : LR M (S + 1 + 1) (mI M (S + 148 + 1)) n := hN.1
  have hm0 : inR 0 370 = True := eq_true (by decide)
  have z0 : (0 : Int32).toNatClampNeg = 0 := by decide
  have one0 : ((1 : Int32) = 0) = False := by decide
  have q5t := q5.2.2.2.2.2.2
  have kt := q5.2.2.2.1
  by_cases q : x < 0 ∨ 16 ≤ x
  · refine ⟨-1, M, M, Low.refl _ _, ?_, ?_, h⟩
    · show rn 62 0 [some (.ref S), some (.int x), some (.int y), none] [] M = _
      simp only [t62_0, t62_1, t62_4, t62_7, t62_10, t62_11, t62_12, t62_15, t62_18, t62_19, t62_20, t62_21, t62_60, t62_61, t62_62, t62_65, t62_68, t62_69, t62_72, t62_73, t62_74, t62_75, t62_78, t62_79, t62_80, t62_81, t62_82, t62_85, t62_86, t62_87, t62_88, t62_89, t62_90, t62_93, t62_94, t62_95, t62_96, t62_99, t62_100, t62_101, t62_102, t62_105, t62_106, t62_108, K0, P0, q1, q3, q5.1, kt, va_rf_s, c_isFile, cbn_i, q, ↓reduceIte, not_true_eq_false]
    · show rn 149 0 [some (.ref (S + 148)), some (.int x), some (.int y)] [] M = _
      simp only [t149_0, t149_1, t149_4, t149_7, t149_8, t149_9, t149_10, t149_48, t149_49, t149_50, t149_51, t149_54, t149_55, t149_56, t149_57, t149_60, t149_61, t149_62, t149_63, t149_66, t149_69, t149_70, t149_71, t149_74, t149_77, t149_79, t149_80, t149_81, t149_82, t149_85, t149_88, t149_89, t149_90, t149_93, t149_96, t149_97, t149_98, t149_100, c_mFile, mFileEq, cbn_i, q, ↓reduceIte, not_true_eq_false]
  · obtain ⟨f, hf, rfl⟩ := isF_of (x := x) (by unfold isF; exact decide_eq_true q)
    have hin : inR (nI f) 16 = True := i_inT hf (by decide)
    have hcf := nI_c (show f < 2147483648 by omega)
    have hT : TR (mI M (S + 148 + 1)) (tD M (S + 1 + 7 + 3)) (tV M (S + 1 + 7 + 3)) := hN.2.2.2.2.2.2.2.2.2.1
    have hI : TI (tD M (S + 1 + 7 + 3)) (tV M (S + 1 + 7 + 3)) := hN.2.2.2.2.2.2.2.2.2.2
    obtain ⟨r0, r1, r2⟩ := hT f hf
    have hh := c_has q5t hf
    have th := c_mThere MM hf
    simp only [th_T hT hf] at th
    have pt : ∀ p, p < 3 → cl 141 [.ref (S + 148), .int (nI f), .int (nI p)] M = some (some (.int (mI M (S + 148 + 1) (322 + 3 * f + p))), M) := fun p hp => c_filePart MM hf hp
    rcases cases6 y with hy | hy | hy | hy | hy | hy | hy
    · skip
      have t0 : (y = 0) = True := by rw [hy]; decide
      have hp : cl 141 [.ref (S + 148), .int (nI f), .int y] M = some (some (.int (mI M (S + 148 + 1) (322 + 3 * f + 0))), M) := by rw [hy]; exact pt 0 (by decide)
      rw [show 322 + 3 * f + 0 = 322 + 3 * f from rfl, r0] at hp
      refine ⟨if tV M (S + 1 + 7 + 3) f = -6 then 0 else 1, M, M, Low.refl _ _, ?_, ?_, h⟩
      · show rn 62 0 [some (.ref S), some (.int (nI f)), some (.int y), none] [] M = _
        by_cases hv : tV M (S + 1 + 7 + 3) f = -6 <;> simp only [hv, ↓reduceIte] at hh ⊢ <;> simp only [t62_0, t62_1, t62_4, t62_7, t62_10, t62_11, t62_12, t62_15, t62_18, t62_19, t62_20, t62_21, t62_60, t62_61, t62_62, t62_65, t62_68, t62_69, t62_72, t62_73, t62_74, t62_75, t62_78, t62_79, t62_80, t62_81, t62_82, t62_85, t62_86, t62_87, t62_88, t62_89, t62_90, t62_93, t62_94, t62_95, t62_96, t62_99, t62_100, t62_101, t62_102, t62_105, t62_106, t62_108, t0, hh, ↓reduceIte, K0, P0, q1, q3, q5.1, kt, q5t.1, va_rf_s, c_isFile, q, not_true_eq_false, not_false_eq_true, one0, cbn_i, cbn_v]
      · show rn 149 0 [some (.ref (S + 148)), some (.int (nI f)), some (.int y)] [] M = _
        simp only [t149_0, t149_1, t149_4, t149_7, t149_8, t149_9, t149_10, t149_48, t149_49, t149_50, t149_51, t149_54, t149_55, t149_56, t149_57, t149_60, t149_61, t149_62, t149_63, t149_66, t149_69, t149_70, t149_71, t149_74, t149_77, t149_79, t149_80, t149_81, t149_82, t149_85, t149_88, t149_89, t149_90, t149_93, t149_96, t149_97, t149_98, t149_100, t0, hp, ↓reduceIte, MM.1, c_mFile, mFileEq, q, not_true_eq_false, not_false_eq_true, one0, cbn_i, cbn_v]
    · skip
      have t0 : (y = 0) = False := by rw [hy]; decide
      have t1 : (y = 1) = True := by rw [hy]; decide
      have hp : cl 141 [.ref (S + 148), .int (nI f), .int y] M = some (some (.int (mI M (S + 148 + 1) (322 + 3 * f + 1))), M) := by rw [hy]; exact pt 1 (by decide)
      rw [r1] at hp
      refine ⟨tD M (S + 1 + 7 + 3) f, M, M, Low.refl _ _, ?_, ?_, h⟩
      · show rn 62 0 [some (.ref S), some (.int (nI f)), some (.int y), none] [] M = _
        simp only [t62_0, t62_1, t62_4, t62_7, t62_10, t62_11, t62_12, t62_15, t62_18, t62_19, t62_20, t62_21, t62_60, t62_61, t62_62, t62_65, t62_68, t62_69, t62_72, t62_73, t62_74, t62_75, t62_78, t62_79, t62_80, t62_81, t62_82, t62_85, t62_86, t62_87, t62_88, t62_89, t62_90, t62_93, t62_94, t62_95, t62_96, t62_99, t62_100, t62_101, t62_102, t62_105, t62_106, t62_108, t0, t1, ↓reduceIte, K0, P0, q1, q3, q5.1, kt, q5t.1, va_rf_s, c_isFile, q, not_true_eq_false, not_false_eq_true, one0, cbn_i, cbn_v, q5t.2.1, q5t.2.2.2.1, true_or, hin, and_self, hcf] <;> rfl
      · show rn 149 0 [some (.ref (S + 148)), some (.int (nI f)), some (.int y)] [] M = _
        simp only [t149_0, t149_1, t149_4, t149_7, t149_8, t149_9, t149_10, t149_48, t149_49, t149_50, t149_51, t149_54, t149_55, t149_56, t149_57, t149_60, t149_61, t149_62, t149_63, t149_66, t149_69, t149_70, t149_71, t149_74, t149_77, t149_79, t149_80, t149_81, t149_82, t149_85, t149_88, t149_89, t149_90, t149_93, t149_96, t149_97, t149_98, t149_100, t0, t1, ↓reduceIte, MM.1, c_mFile, mFileEq, q, not_true_eq_false, not_false_eq_true, one0, cbn_i, cbn_v, hp]
    · skip
      have t0 : (y = 0) = False := by rw [hy]; decide
      have t1 : (y = 1) = False := by rw [hy]; decide
      have t2 : (y = 2) = True := by rw [hy]; decide
      have hp : cl 141 [.ref (S + 148), .int (nI f), .int y] M = some (some (.int (mI M (S + 148 + 1) (322 + 3 * f + 2))), M) := by rw [hy]; exact pt 2 (by decide)
      rw [r2] at hp
      refine ⟨tV M (S + 1 + 7 + 3) f, M, M, Low.refl _ _, ?_, ?_, h⟩
      · show rn 62 0 [some (.ref S), some (.int (nI f)), some (.int y), none] [] M = _
        simp only [t62_0, t62_1, t62_4, t62_7, t62_10, t62_11, t62_12, t62_15, t62_18, t62_19, t62_20, t62_21, t62_60, t62_61, t62_62, t62_65, t62_68, t62_69, t62_72, t62_73, t62_74, t62_75, t62_78, t62_79, t62_80, t62_81, t62_82, t62_85, t62_86, t62_87, t62_88, t62_89, t62_90, t62_93, t62_94, t62_95, t62_96, t62_99, t62_100, t62_101, t62_102, t62_105, t62_106, t62_108, t0, t1, t2, ↓reduceIte, K0, P0, q1, q3, q5.1, kt, q5t.1, va_rf_s, c_isFile, q, not_true_eq_false, not_false_eq_true, one0, cbn_i, cbn_v, q5t.2.2.1, q5t.2.2.2.2, true_or, hin, and_self, hcf] <;> rfl
      · show rn 149 0 [some (.ref (S + 148)), some (.int (nI f)), some (.int y)] [] M = _
        simp only [t149_0, t149_1, t149_4, t149_7, t149_8, t149_9, t149_10, t149_48, t149_49, t149_50, t149_51, t149_54, t149_55, t149_56, t149_57, t149_60, t149_61, t149_62, t149_63, t149_66, t149_69, t149_70, t149_71, t149_74, t149_77, t149_79, t149_80, t149_81, t149_82, t149_85, t149_88, t149_89, t149_90, t149_93, t149_96, t149_97, t149_98, t149_100, t0, t1, t2, ↓reduceIte, MM.1, c_mFile, mFileEq, q, not_true_eq_false, not_false_eq_true, one0, cbn_i, cbn_v, hp]
    · skip
      have t0 : (y = 0) = False := by rw [hy]; decide
      have t1 : (y = 1) = False := by rw [hy]; decide
      have t2 : (y = 2) = False := by rw [hy]; decide
      have t3 : (y = 3) = True := by rw [hy]; decide
      have hc := c_filesIn q5t (nI f)
      have hm := c_mFilesIn MM hT hI hf
      refine ⟨m32 (fun g => decide (tD M (S + 1 + 7 + 3) g = nI f)) 16, M, M, Low.refl _ _, ?_, ?_, h⟩
      · show rn 62 0 [some (.ref S), some (.int (nI f)), some (.int y), none] [] M = _
        simp only [t62_0, t62_1, t62_4, t62_7, t62_10, t62_11, t62_12, t62_15, t62_18, t62_19, t62_20, t62_21, t62_60, t62_61, t62_62, t62_65, t62_68, t62_69, t62_72, t62_73, t62_74, t62_75, t62_78, t62_79, t62_80, t62_81, t62_82, t62_85, t62_86, t62_87, t62_88, t62_89, t62_90, t62_93, t62_94, t62_95, t62_96, t62_99, t62_100, t62_101, t62_102, t62_105, t62_106, t62_108, t0, t1, t2, t3, ↓reduceIte, K0, P0, q1, q3, q5.1, kt, q5t.1, va_rf_s, c_isFile, q, not_true_eq_false, not_false_eq_true, one0, cbn_i, cbn_v, hc]
      · show rn 149 0 [some (.ref (S + 148)), some (.int (nI f)), some (.int y)] [] M = _
        simp only [t149_0, t149_1, t149_4, t149_7, t149_8, t149_9, t149_10, t149_48, t149_49, t149_50, t149_51, t149_54, t149_55, t149_56, t149_57, t149_60, t149_61, t149_62, t149_63, t149_66, t149_69, t149_70, t149_71, t149_74, t149_77, t149_79, t149_80, t149_81, t149_82, t149_85, t149_88, t149_89, t149_90, t149_93, t149_96, t149_97, t149_98, t149_100, t0, t1, t2, t3, ↓reduceIte, MM.1, c_mFile, mFileEq, q, not_true_eq_false, not_false_eq_true, one0, cbn_i, cbn_v, hm]
    · skip
      have t0 : (y = 0) = False := by rw [hy]; decide
      have t1 : (y = 1) = False := by rw [hy]; decide
      have t2 : (y = 2) = False := by rw [hy]; decide
      have t3 : (y = 3) = False := by rw [hy]; decide
      have t4 : (y = 4) = True := by rw [hy]; decide
      have hc := c_above q5t hf
      have hm := c_mAbove MM hT hI hf
      refine ⟨if tV M (S + 1 + 7 + 3) f = -6 then -6 else nI (upN (tD M (S + 1 + 7 + 3)) 16 (tD M (S + 1 + 7 + 3) f)), M, M, Low.refl _ _, ?_, ?_, h⟩
      · show rn 62 0 [some (.ref S), some (.int (nI f)), some (.int y), none] [] M = _
        simp only [t62_0, t62_1, t62_4, t62_7, t62_10, t62_11, t62_12, t62_15, t62_18, t62_19, t62_20, t62_21, t62_60, t62_61, t62_62, t62_65, t62_68, t62_69, t62_72, t62_73, t62_74, t62_75, t62_78, t62_79, t62_80, t62_81, t62_82, t62_85, t62_86, t62_87, t62_88, t62_89, t62_90, t62_93, t62_94, t62_95, t62_96, t62_99, t62_100, t62_101, t62_102, t62_105, t62_106, t62_108, t0, t1, t2, t3, t4, ↓reduceIte, K0, P0, q1, q3, q5.1, kt, q5t.1, va_rf_s, c_isFile, q, not_true_eq_false, not_false_eq_true, one0, cbn_i, cbn_v, hc]
      · show rn 149 0 [some (.ref (S + 148)), some (.int (nI f)), some (.int y)] [] M = _
        by_cases hv : tV M (S + 1 + 7 + 3) f = -6 <;> simp only [hv, not_true_eq_false, not_false_eq_true, ↓reduceIte] at th ⊢ <;> simp only [t149_0, t149_1, t149_4, t149_7, t149_8, t149_9, t149_10, t149_48, t149_49, t149_50, t149_51, t149_54, t149_55, t149_56, t149_57, t149_60, t149_61, t149_62, t149_63, t149_66, t149_69, t149_70, t149_71, t149_74, t149_77, t149_79, t149_80, t149_81, t149_82, t149_85, t149_88, t149_89, t149_90, t149_93, t149_96, t149_97, t149_98, t149_100, t0, t1, t2, t3, t4, th, hm, ↓reduceIte, MM.1, c_mFile, mFileEq, q, not_true_eq_false, not_false_eq_true, one0, cbn_i, cbn_v]
    · skip
      have t0 : (y = 0) = False := by rw [hy]; decide
      have t1 : (y = 1) = False := by rw [hy]; decide
      have t2 : (y = 2) = False := by rw [hy]; decide
      have t3 : (y = 3) = False := by rw [hy]; decide
      have t4 : (y = 4) = False := by rw [hy]; decide
      have t5 : (y = 5) = True := by rw [hy]; decide
      have hc := c_below q5t (nI f)
      have hm := c_allUnder MM hT hI hf
      have hz : tV M (S + 1 + 7 + 3) f = -6 → cnt (fun g => !decide (nI g = nI f) && lies (tD M (S + 1 + 7 + 3)) 16 (nI g) (nI f)) 16 = 0 := fun hv => by
        have : cnt (fun g => !decide (nI g = nI f) && lies (tD M (S + 1 + 7 + 3)) 16 (nI g) (nI f)) 16 = cnt (fun _ => false) 16 := cnt_cong (fun g hg => by
          by_cases qg : nI g = nI f
          · simp [qg]
          · have := lies_no (D := tD M (S + 1 + 7 + 3)) hf (fun g hg he => ?_) 16 (nI g) qg
            · rw [this]; simp
            · by_cases hvg : tV M (S + 1 + 7 + 3) g = -6
              · rw [hI.2.2.1 g hg hvg] at he
                exact absurd he.symm (of_eq_false (nI_m6 hf))
              · by_cases g0 : g = 0
                · subst g0
                  rw [hI.1] at he
                  exact absurd he.symm (of_eq_false (nI_m6 hf))
                · obtain ⟨p, p1, p2, p3⟩ := hI.2.2.2.1 g (by omega) hg hvg
                  rw [p2, nI_inj (by omega) (by omega)] at he
                  subst he
                  exact p3 hv)
        rw [this]; rfl
      refine ⟨nI (cnt (fun g => !decide (nI g = nI f) && lies (tD M (S + 1 + 7 + 3)) 16 (nI g) (nI f)) 16), M, M, Low.refl _ _, ?_, ?_, h⟩
      · show rn 62 0 [some (.ref S), some (.int (nI f)), some (.int y), none] [] M = _
        simp only [t62_0, t62_1, t62_4, t62_7, t62_10, t62_11, t62_12, t62_15, t62_18, t62_19, t62_20, t62_21, t62_60, t62_61, t62_62, t62_65, t62_68, t62_69, t62_72, t62_73, t62_74, t62_75, t62_78, t62_79, t62_80, t62_81, t62_82, t62_85, t62_86, t62_87, t62_88, t62_89, t62_90, t62_93, t62_94, t62_95, t62_96, t62_99, t62_100, t62_101, t62_102, t62_105, t62_106, t62_108, t0, t1, t2, t3, t4, t5, ↓reduceIte, K0, P0, q1, q3, q5.1, kt, q5t.1, va_rf_s, c_isFile, q, not_true_eq_false, not_false_eq_true, one0, cbn_i, cbn_v, hc]
      · show rn 149 0 [some (.ref (S + 148)), some (.int (nI f)), some (.int y)] [] M = _
        by_cases hv : tV M (S + 1 + 7 + 3) f = -6 <;> simp only [hv, not_true_eq_false, not_false_eq_true, ↓reduceIte] at th
        · rw [hz hv]
          simp only [t149_0, t149_1, t149_4, t149_7, t149_8, t149_9, t149_10, t149_48, t149_49, t149_50, t149_51, t149_54, t149_55, t149_56, t149_57, t149_60, t149_61, t149_62, t149_63, t149_66, t149_69, t149_70, t149_71, t149_74, t149_77, t149_79, t149_80, t149_81, t149_82, t149_85, t149_88, t149_89, t149_90, t149_93, t149_96, t149_97, t149_98, t149_100, t0, t1, t2, t3, t4, t5, th, ↓reduceIte, MM.1, c_mFile, mFileEq, q, not_true_eq_false, not_false_eq_true, one0, cbn_i, cbn_v]
          rfl
        · simp only [t149_0, t149_1, t149_4, t149_7, t149_8, t149_9, t149_10, t149_48, t149_49, t149_50, t149_51, t149_54, t149_55, t149_56, t149_57, t149_60, t149_61, t149_62, t149_63, t149_66, t149_69, t149_70, t149_71, t149_74, t149_77, t149_79, t149_80, t149_81, t149_82, t149_85, t149_88, t149_89, t149_90, t149_93, t149_96, t149_97, t149_98, t149_100, t0, t1, t2, t3, t4, t5, th, hm, ↓reduceIte, MM.1, c_mFile, mFileEq, q, not_true_eq_false, not_false_eq_true, one0, cbn_i, cbn_v]
    · skip
      obtain ⟨t0, t1, t2, t3, t4, t5⟩ := hy
      refine ⟨-2, M, M, Low.refl _ _, ?_, ?_, h⟩
      · show rn 62 0 [some (.ref S), some (.int (nI f)), some (.int y), none] [] M = _
        simp only [t62_0, t62_1, t62_4, t62_7, t62_10, t62_11, t62_12, t62_15, t62_18, t62_19, t62_20, t62_21, t62_60, t62_61, t62_62, t62_65, t62_68, t62_69, t62_72, t62_73, t62_74, t62_75, t62_78, t62_79, t62_80, t62_81, t62_82, t62_85, t62_86, t62_87, t62_88, t62_89, t62_90, t62_93, t62_94, t62_95, t62_96, t62_99, t62_100, t62_101, t62_102, t62_105, t62_106, t62_108, t0, t1, t2, t3, t4, t5, ↓reduceIte, K0, P0, q1, q3, q5.1, kt, q5t.1, va_rf_s, c_isFile, q, not_true_eq_false, not_false_eq_true, one0, cbn_i, cbn_v]
      · show rn 149 0 [some (.ref (S + 148)), some (.int (nI f)), some (.int y)] [] M = _
        simp only [t149_0, t149_1, t149_4, t149_7, t149_8, t149_9, t149_10, t149_48, t149_49, t149_50, t149_51, t149_54, t149_55, t149_56, t149_57, t149_60, t149_61, t149_62, t149_63, t149_66, t149_69, t149_70, t149_71, t149_74, t149_77, t149_79, t149_80, t149_81, t149_82, t149_85, t149_88, t149_89, t149_90, t149_93, t149_96, t149_97, t149_98, t149_100, t0, t1, t2, t3, t4, t5, ↓reduceIte, MM.1, c_mFile, mFileEq, q, not_true_eq_false, not_false_eq_true, one0, cbn_i, cbn_v]
