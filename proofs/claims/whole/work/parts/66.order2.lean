/-! an order read by the reference -/
theorem isF_nn {x : Int32} (h : isF x = true) : (x < 0) = False := by
  obtain ⟨j, hj, rfl⟩ := isF_of h
  exact lt0 (by omega)
theorem m_readsOrder {N : SM} {m l p : Nat} {T : Nat → Int32} (h : RB N m l T) (hp : p ≤ 700) (ha : mI N m 11 = nI p) : ∃ F, cl 165 [.ref m] N = some (some (.int (if (rdO (gT T l) p).1 = true then 1 else 0)), sI N m F) ∧ F 3 = mI N m 3 ∧ F 7 = mI N m 7 ∧ F 11 = nI (rdO (gT T l) p).2.1 ∧ ((rdO (gT T l) p).1 = true → F 12 = gT T l p ∧ (¬ gT T l p = 114 → F 13 = nI (rdO (gT T l) p).2.2.1) ∧ (usB (gT T l p) → F 14 = nI (rdO (gT T l) p).2.2.2)) := by
  have hc := m_char h (p := p) (by omega)
  have hm := h.1.1
  have one0 : ((1 : Int32) = 0) = False := by decide
  have m1 : ((-1 : Int32) < 0) = True := by decide
  show ∃ F, rn 165 0 [some (.ref m)] [] N = _ ∧ _
  obtain ⟨r0, hr0⟩ : ∃ r0, r0 = mI N m := ⟨_, rfl⟩
  have e11 : ∀ v, va_up r0 12 v 11 = nI p := fun v => by rw [va_up_ne _ _ (by decide), hr0]; exact ha
  have e12 : ∀ v u, va_up (va_up r0 12 v) 11 u 12 = v := fun v u => by rw [va_up_ne _ _ (by decide), va_up_self]
  have r7 : r0 7 = mI N m 7 := by rw [hr0]
  have r3 : r0 3 = mI N m 3 := by rw [hr0]
  have hg : ∀ k : Int32, ¬ k = 0 → ¬ k = -1 → (hT T l p = k) = (gT T l p = k) := fun k h0 h1 => hg_eq h0 h1
  have g100 := hg 100 (by decide) (by decide)
  have g102 := hg 102 (by decide) (by decide)
  have g108 := hg 108 (by decide) (by decide)
  have g109 := hg 109 (by decide) (by decide)
  have g110 := hg 110 (by decide) (by decide)
  have g114 := hg 114 (by decide) (by decide)
  have g118 := hg 118 (by decide) (by decide)
  have g119 := hg 119 (by decide) (by decide)
  by_cases n100 : gT T l p = 100
  · have hx := n100
    have t100 : (gT T l p = 100) = True := by rw [hx]; decide
    have t102 : (gT T l p = 102) = False := by rw [hx]; decide
    have t108 : (gT T l p = 108) = False := by rw [hx]; decide
    have t109 : (gT T l p = 109) = False := by rw [hx]; decide
    have t110 : (gT T l p = 110) = False := by rw [hx]; decide
    have t114 : (gT T l p = 114) = False := by rw [hx]; decide
    have t118 : (gT T l p = 118) = False := by rw [hx]; decide
    have t119 : (gT T l p = 119) = False := by rw [hx]; decide
    have hgl : hT T l p = gT T l p := hg_in (g_in (by rw [hx]; decide))
    have h1 := m_takeFile h (f := va_up (va_up r0 12 (hT T l p)) 11 (nI (p + 1))) (p := p + 1) (by simp [va_up, r7]) (by omega) (by simp [va_up])
    cases hF1 : isF (gT T l (p + 1) - 97) with
    | true =>
      rw [if_pos hF1] at h1
      have hv1 := fl_n hF1
      have nn1 := isF_nn hF1
      have er : rdO (gT T l) p = (true, p + 1 + 1, (gT T l (p + 1) - 97).toNatClampNeg, 0) := by
        unfold rdO
        simp only [t100, t102, t108, t109, t110, t114, t118, t119, ↓reduceIte, onO, rdF, hF1]
      have e : rn 165 0 [some (.ref m)] [] N = some (some (.int 1), sI N m (va_up (va_up (va_up (va_up r0 12 (hT T l p)) 11 (nI (p + 1))) 11 (nI (p + 1 + 1))) 13 (gT T l (p + 1) - 97))) := by
        simp only [t165_0, t165_1, t165_2, t165_3, t165_6, t165_9, t165_12, t165_13, t165_14, t165_17, t165_18, t165_19, t165_22, t165_23, t165_26, t165_120, t165_121, t165_122, t165_125, t165_128, t165_129, t165_130, t165_133, t165_136, t165_137, t165_139, t165_142, t165_145, t165_146, t165_149, t165_152, t165_153, t165_156, t165_157, t165_160, t165_163, t165_164, t165_167, t165_168, t165_169, t165_170, t165_171, t165_174, t165_177, t165_178, t165_179, t165_182, t165_185, t165_186, t165_188, t165_191, t165_194, t165_195, t165_198, t165_201, t165_202, t165_205, t165_206, t165_209, t165_212, t165_213, t165_216, t165_217, t165_218, t165_219, t165_220, t165_223, t165_226, t165_227, t165_230, t165_233, t165_234, t165_237, t165_238, t165_239, t165_240, t165_241, t165_244, t165_247, t165_248, t165_251, t165_254, t165_255, t165_258, t165_259, t165_260, t165_261, t165_262, t165_265, t165_268, t165_269, t165_270, t165_273, t165_276, t165_277, t165_279, t165_282, t165_285, t165_286, t165_289, t165_292, t165_293, t165_296, t165_297, t165_300, t165_303, t165_304, t165_307, t165_308, t165_309, t165_310, t165_311, t165_312, t165_313, t165_316, t165_317, t165_318, t165_321, t165_322, g100, g102, g108, g109, g110, g114, g118, g119, t100, t102, t108, t109, t110, t114, t118, t119, hm, ha, hc, m1, cbn_i, mK_sI, mI_sI, sI_sI, ← hr0, e11, e12, va_up_self, n1, or_true, true_or, not_true_eq_false, not_false_eq_true, one0, ↓reduceIte, h1, nn1]
      rw [er]
      refine ⟨va_up (va_up (va_up (va_up r0 12 (hT T l p)) 11 (nI (p + 1))) 11 (nI (p + 1 + 1))) 13 (gT T l (p + 1) - 97), e, ?_, ?_, ?_, ?_⟩
      · simp [va_up, r3]
      · simp [va_up, r7]
      · simp [va_up]
      · exact fun _ => ⟨by simp [va_up, hgl], fun _ => by simp [va_up, hv1], fun z => absurd z (by rw [hx]; unfold usB; decide)⟩
    | false =>
      rw [if_neg (by rw [hF1]; decide)] at h1
      have er : rdO (gT T l) p = (false, p + 1, 0, 0) := by
        unfold rdO
        simp only [t100, t102, t108, t109, t110, t114, t118, t119, ↓reduceIte, onO, rdF, hF1, Bool.false_eq_true]
      have e : rn 165 0 [some (.ref m)] [] N = some (some (.int 0), sI N m (va_up (va_up (va_up r0 12 (hT T l p)) 11 (nI (p + 1))) 13 (-1))) := by
        simp only [t165_0, t165_1, t165_2, t165_3, t165_6, t165_9, t165_12, t165_13, t165_14, t165_17, t165_18, t165_19, t165_22, t165_23, t165_26, t165_120, t165_121, t165_122, t165_125, t165_128, t165_129, t165_130, t165_133, t165_136, t165_137, t165_139, t165_142, t165_145, t165_146, t165_149, t165_152, t165_153, t165_156, t165_157, t165_160, t165_163, t165_164, t165_167, t165_168, t165_169, t165_170, t165_171, t165_174, t165_177, t165_178, t165_179, t165_182, t165_185, t165_186, t165_188, t165_191, t165_194, t165_195, t165_198, t165_201, t165_202, t165_205, t165_206, t165_209, t165_212, t165_213, t165_216, t165_217, t165_218, t165_219, t165_220, t165_223, t165_226, t165_227, t165_230, t165_233, t165_234, t165_237, t165_238, t165_239, t165_240, t165_241, t165_244, t165_247, t165_248, t165_251, t165_254, t165_255, t165_258, t165_259, t165_260, t165_261, t165_262, t165_265, t165_268, t165_269, t165_270, t165_273, t165_276, t165_277, t165_279, t165_282, t165_285, t165_286, t165_289, t165_292, t165_293, t165_296, t165_297, t165_300, t165_303, t165_304, t165_307, t165_308, t165_309, t165_310, t165_311, t165_312, t165_313, t165_316, t165_317, t165_318, t165_321, t165_322, g100, g102, g108, g109, g110, g114, g118, g119, t100, t102, t108, t109, t110, t114, t118, t119, hm, ha, hc, m1, cbn_i, mK_sI, mI_sI, sI_sI, ← hr0, e11, e12, va_up_self, n1, or_true, true_or, not_true_eq_false, not_false_eq_true, one0, ↓reduceIte, h1]
      rw [er]
      refine ⟨va_up (va_up (va_up r0 12 (hT T l p)) 11 (nI (p + 1))) 13 (-1), e, ?_, ?_, ?_, ?_⟩
      · simp [va_up, r3]
      · simp [va_up, r7]
      · simp [va_up]
      · intro z; cases z
  by_cases n102 : gT T l p = 102
  · have hx := n102
    have t100 : (gT T l p = 100) = False := by rw [hx]; decide
    have t102 : (gT T l p = 102) = True := by rw [hx]; decide
    have t108 : (gT T l p = 108) = False := by rw [hx]; decide
    have t109 : (gT T l p = 109) = False := by rw [hx]; decide
    have t110 : (gT T l p = 110) = False := by rw [hx]; decide
    have t114 : (gT T l p = 114) = False := by rw [hx]; decide
    have t118 : (gT T l p = 118) = False := by rw [hx]; decide
    have t119 : (gT T l p = 119) = False := by rw [hx]; decide
    have hgl : hT T l p = gT T l p := hg_in (g_in (by rw [hx]; decide))
    have h1 := m_takeNum h (f := va_up (va_up r0 12 (hT T l p)) 11 (nI (p + 1))) (p := p + 1) (by simp [va_up, r7]) (by omega) (by simp [va_up])
    cases hF1 : rdN (gT T l) (p + 1) with
    | some r =>
      obtain ⟨a, q1⟩ := r
      rw [hF1] at h1
      dsimp only at h1
      have hq1 := rdN_v hF1
      have nn1 : (nI a < 0) = False := lt0 (by omega)
      have er : rdO (gT T l) p = (true, q1, a, 0) := by
        unfold rdO
        simp only [t100, t102, t108, t109, t110, t114, t118, t119, ↓reduceIte, onO, hF1]
      have e : rn 165 0 [some (.ref m)] [] N = some (some (.int 1), sI N m (va_up (va_up (va_up (va_up r0 12 (hT T l p)) 11 (nI (p + 1))) 11 (nI (q1))) 13 (nI a))) := by
        simp only [t165_0, t165_1, t165_2, t165_3, t165_6, t165_9, t165_12, t165_13, t165_14, t165_17, t165_18, t165_19, t165_22, t165_23, t165_26, t165_120, t165_121, t165_122, t165_125, t165_128, t165_129, t165_130, t165_133, t165_136, t165_137, t165_139, t165_142, t165_145, t165_146, t165_149, t165_152, t165_153, t165_156, t165_157, t165_160, t165_163, t165_164, t165_167, t165_168, t165_169, t165_170, t165_171, t165_174, t165_177, t165_178, t165_179, t165_182, t165_185, t165_186, t165_188, t165_191, t165_194, t165_195, t165_198, t165_201, t165_202, t165_205, t165_206, t165_209, t165_212, t165_213, t165_216, t165_217, t165_218, t165_219, t165_220, t165_223, t165_226, t165_227, t165_230, t165_233, t165_234, t165_237, t165_238, t165_239, t165_240, t165_241, t165_244, t165_247, t165_248, t165_251, t165_254, t165_255, t165_258, t165_259, t165_260, t165_261, t165_262, t165_265, t165_268, t165_269, t165_270, t165_273, t165_276, t165_277, t165_279, t165_282, t165_285, t165_286, t165_289, t165_292, t165_293, t165_296, t165_297, t165_300, t165_303, t165_304, t165_307, t165_308, t165_309, t165_310, t165_311, t165_312, t165_313, t165_316, t165_317, t165_318, t165_321, t165_322, g100, g102, g108, g109, g110, g114, g118, g119, t100, t102, t108, t109, t110, t114, t118, t119, hm, ha, hc, m1, cbn_i, mK_sI, mI_sI, sI_sI, ← hr0, e11, e12, va_up_self, n1, or_true, true_or, not_true_eq_false, not_false_eq_true, one0, ↓reduceIte, h1, nn1]
      rw [er]
      refine ⟨va_up (va_up (va_up (va_up r0 12 (hT T l p)) 11 (nI (p + 1))) 11 (nI (q1))) 13 (nI a), e, ?_, ?_, ?_, ?_⟩
      · simp [va_up, r3]
      · simp [va_up, r7]
      · simp [va_up]
      · exact fun _ => ⟨by simp [va_up, hgl], fun _ => by simp [va_up], fun z => absurd z (by rw [hx]; unfold usB; decide)⟩
    | none =>
      rw [hF1] at h1
      dsimp only at h1
      have er : rdO (gT T l) p = (false, p + 1, 0, 0) := by
        unfold rdO
        simp only [t100, t102, t108, t109, t110, t114, t118, t119, ↓reduceIte, onO, hF1]
      have e : rn 165 0 [some (.ref m)] [] N = some (some (.int 0), sI N m (va_up (va_up (va_up r0 12 (hT T l p)) 11 (nI (p + 1))) 13 (-1))) := by
        simp only [t165_0, t165_1, t165_2, t165_3, t165_6, t165_9, t165_12, t165_13, t165_14, t165_17, t165_18, t165_19, t165_22, t165_23, t165_26, t165_120, t165_121, t165_122, t165_125, t165_128, t165_129, t165_130, t165_133, t165_136, t165_137, t165_139, t165_142, t165_145, t165_146, t165_149, t165_152, t165_153, t165_156, t165_157, t165_160, t165_163, t165_164, t165_167, t165_168, t165_169, t165_170, t165_171, t165_174, t165_177, t165_178, t165_179, t165_182, t165_185, t165_186, t165_188, t165_191, t165_194, t165_195, t165_198, t165_201, t165_202, t165_205, t165_206, t165_209, t165_212, t165_213, t165_216, t165_217, t165_218, t165_219, t165_220, t165_223, t165_226, t165_227, t165_230, t165_233, t165_234, t165_237, t165_238, t165_239, t165_240, t165_241, t165_244, t165_247, t165_248, t165_251, t165_254, t165_255, t165_258, t165_259, t165_260, t165_261, t165_262, t165_265, t165_268, t165_269, t165_270, t165_273, t165_276, t165_277, t165_279, t165_282, t165_285, t165_286, t165_289, t165_292, t165_293, t165_296, t165_297, t165_300, t165_303, t165_304, t165_307, t165_308, t165_309, t165_310, t165_311, t165_312, t165_313, t165_316, t165_317, t165_318, t165_321, t165_322, g100, g102, g108, g109, g110, g114, g118, g119, t100, t102, t108, t109, t110, t114, t118, t119, hm, ha, hc, m1, cbn_i, mK_sI, mI_sI, sI_sI, ← hr0, e11, e12, va_up_self, n1, or_true, true_or, not_true_eq_false, not_false_eq_true, one0, ↓reduceIte, h1]
      rw [er]
      refine ⟨va_up (va_up (va_up r0 12 (hT T l p)) 11 (nI (p + 1))) 13 (-1), e, ?_, ?_, ?_, ?_⟩
      · simp [va_up, r3]
      · simp [va_up, r7]
      · simp [va_up]
      · intro z; cases z
  by_cases n108 : gT T l p = 108
  · have hx := n108
    have t100 : (gT T l p = 100) = False := by rw [hx]; decide
    have t102 : (gT T l p = 102) = False := by rw [hx]; decide
    have t108 : (gT T l p = 108) = True := by rw [hx]; decide
    have t109 : (gT T l p = 109) = False := by rw [hx]; decide
    have t110 : (gT T l p = 110) = False := by rw [hx]; decide
    have t114 : (gT T l p = 114) = False := by rw [hx]; decide
    have t118 : (gT T l p = 118) = False := by rw [hx]; decide
    have t119 : (gT T l p = 119) = False := by rw [hx]; decide
    have hgl : hT T l p = gT T l p := hg_in (g_in (by rw [hx]; decide))
    have h1 := m_takeNum h (f := va_up (va_up r0 12 (hT T l p)) 11 (nI (p + 1))) (p := p + 1) (by simp [va_up, r7]) (by omega) (by simp [va_up])
    cases hF1 : rdN (gT T l) (p + 1) with
    | some r =>
      obtain ⟨a, q1⟩ := r
      rw [hF1] at h1
      dsimp only at h1
      have hq1 := rdN_v hF1
      have nn1 : (nI a < 0) = False := lt0 (by omega)
      have er : rdO (gT T l) p = (true, q1, a, 0) := by
        unfold rdO
        simp only [t100, t102, t108, t109, t110, t114, t118, t119, ↓reduceIte, onO, hF1]
      have e : rn 165 0 [some (.ref m)] [] N = some (some (.int 1), sI N m (va_up (va_up (va_up (va_up r0 12 (hT T l p)) 11 (nI (p + 1))) 11 (nI (q1))) 13 (nI a))) := by
        simp only [t165_0, t165_1, t165_2, t165_3, t165_6, t165_9, t165_12, t165_13, t165_14, t165_17, t165_18, t165_19, t165_22, t165_23, t165_26, t165_120, t165_121, t165_122, t165_125, t165_128, t165_129, t165_130, t165_133, t165_136, t165_137, t165_139, t165_142, t165_145, t165_146, t165_149, t165_152, t165_153, t165_156, t165_157, t165_160, t165_163, t165_164, t165_167, t165_168, t165_169, t165_170, t165_171, t165_174, t165_177, t165_178, t165_179, t165_182, t165_185, t165_186, t165_188, t165_191, t165_194, t165_195, t165_198, t165_201, t165_202, t165_205, t165_206, t165_209, t165_212, t165_213, t165_216, t165_217, t165_218, t165_219, t165_220, t165_223, t165_226, t165_227, t165_230, t165_233, t165_234, t165_237, t165_238, t165_239, t165_240, t165_241, t165_244, t165_247, t165_248, t165_251, t165_254, t165_255, t165_258, t165_259, t165_260, t165_261, t165_262, t165_265, t165_268, t165_269, t165_270, t165_273, t165_276, t165_277, t165_279, t165_282, t165_285, t165_286, t165_289, t165_292, t165_293, t165_296, t165_297, t165_300, t165_303, t165_304, t165_307, t165_308, t165_309, t165_310, t165_311, t165_312, t165_313, t165_316, t165_317, t165_318, t165_321, t165_322, g100, g102, g108, g109, g110, g114, g118, g119, t100, t102, t108, t109, t110, t114, t118, t119, hm, ha, hc, m1, cbn_i, mK_sI, mI_sI, sI_sI, ← hr0, e11, e12, va_up_self, n1, or_true, true_or, not_true_eq_false, not_false_eq_true, one0, ↓reduceIte, h1, nn1]
      rw [er]
      refine ⟨va_up (va_up (va_up (va_up r0 12 (hT T l p)) 11 (nI (p + 1))) 11 (nI (q1))) 13 (nI a), e, ?_, ?_, ?_, ?_⟩
      · simp [va_up, r3]
      · simp [va_up, r7]
      · simp [va_up]
      · exact fun _ => ⟨by simp [va_up, hgl], fun _ => by simp [va_up], fun z => absurd z (by rw [hx]; unfold usB; decide)⟩
    | none =>
      rw [hF1] at h1
      dsimp only at h1
      have er : rdO (gT T l) p = (false, p + 1, 0, 0) := by
        unfold rdO
        simp only [t100, t102, t108, t109, t110, t114, t118, t119, ↓reduceIte, onO, hF1]
      have e : rn 165 0 [some (.ref m)] [] N = some (some (.int 0), sI N m (va_up (va_up (va_up r0 12 (hT T l p)) 11 (nI (p + 1))) 13 (-1))) := by
        simp only [t165_0, t165_1, t165_2, t165_3, t165_6, t165_9, t165_12, t165_13, t165_14, t165_17, t165_18, t165_19, t165_22, t165_23, t165_26, t165_120, t165_121, t165_122, t165_125, t165_128, t165_129, t165_130, t165_133, t165_136, t165_137, t165_139, t165_142, t165_145, t165_146, t165_149, t165_152, t165_153, t165_156, t165_157, t165_160, t165_163, t165_164, t165_167, t165_168, t165_169, t165_170, t165_171, t165_174, t165_177, t165_178, t165_179, t165_182, t165_185, t165_186, t165_188, t165_191, t165_194, t165_195, t165_198, t165_201, t165_202, t165_205, t165_206, t165_209, t165_212, t165_213, t165_216, t165_217, t165_218, t165_219, t165_220, t165_223, t165_226, t165_227, t165_230, t165_233, t165_234, t165_237, t165_238, t165_239, t165_240, t165_241, t165_244, t165_247, t165_248, t165_251, t165_254, t165_255, t165_258, t165_259, t165_260, t165_261, t165_262, t165_265, t165_268, t165_269, t165_270, t165_273, t165_276, t165_277, t165_279, t165_282, t165_285, t165_286, t165_289, t165_292, t165_293, t165_296, t165_297, t165_300, t165_303, t165_304, t165_307, t165_308, t165_309, t165_310, t165_311, t165_312, t165_313, t165_316, t165_317, t165_318, t165_321, t165_322, g100, g102, g108, g109, g110, g114, g118, g119, t100, t102, t108, t109, t110, t114, t118, t119, hm, ha, hc, m1, cbn_i, mK_sI, mI_sI, sI_sI, ← hr0, e11, e12, va_up_self, n1, or_true, true_or, not_true_eq_false, not_false_eq_true, one0, ↓reduceIte, h1]
      rw [er]
      refine ⟨va_up (va_up (va_up r0 12 (hT T l p)) 11 (nI (p + 1))) 13 (-1), e, ?_, ?_, ?_, ?_⟩
      · simp [va_up, r3]
      · simp [va_up, r7]
      · simp [va_up]
      · intro z; cases z
  by_cases n109 : gT T l p = 109
  · have hx := n109
    have t100 : (gT T l p = 100) = False := by rw [hx]; decide
    have t102 : (gT T l p = 102) = False := by rw [hx]; decide
    have t108 : (gT T l p = 108) = False := by rw [hx]; decide
    have t109 : (gT T l p = 109) = True := by rw [hx]; decide
    have t110 : (gT T l p = 110) = False := by rw [hx]; decide
    have t114 : (gT T l p = 114) = False := by rw [hx]; decide
    have t118 : (gT T l p = 118) = False := by rw [hx]; decide
    have t119 : (gT T l p = 119) = False := by rw [hx]; decide
    have hgl : hT T l p = gT T l p := hg_in (g_in (by rw [hx]; decide))
    have h1 := m_takeFile h (f := va_up (va_up r0 12 (hT T l p)) 11 (nI (p + 1))) (p := p + 1) (by simp [va_up, r7]) (by omega) (by simp [va_up])
    cases hF1 : isF (gT T l (p + 1) - 97) with
    | true =>
      rw [if_pos hF1] at h1
      have hv1 := fl_n hF1
      have nn1 := isF_nn hF1
      have h2 := m_takes h (f := va_up (va_up (va_up (va_up r0 12 (hT T l p)) 11 (nI (p + 1))) 11 (nI (p + 1 + 1))) 13 (gT T l (p + 1) - 97)) (p := p + 1 + 1) (c := 47) (by simp [va_up, r7]) (by omega) (by simp [va_up]) (by decide) (by decide)
      by_cases hgs : gT T l (p + 1 + 1) = 47
      · rw [if_pos hgs] at h2
        have h3 := m_takeFile h (f := va_up (va_up (va_up (va_up (va_up r0 12 (hT T l p)) 11 (nI (p + 1))) 11 (nI (p + 1 + 1))) 13 (gT T l (p + 1) - 97)) 11 (nI (p + 1 + 1 + 1))) (p := p + 1 + 1 + 1) (by simp [va_up, r7]) (by omega) (by simp [va_up])
        cases hF : isF (gT T l (p + 1 + 1 + 1) - 97) with
        | true =>
          rw [if_pos hF] at h3
          have hv2 := fl_n hF
          have nn2 := isF_nn hF
          have er : rdO (gT T l) p = (true, p + 1 + 1 + 1 + 1, (gT T l (p + 1) - 97).toNatClampNeg, (gT T l (p + 1 + 1 + 1) - 97).toNatClampNeg) := by
            unfold rdO
            simp only [t100, t102, t108, t109, t110, t114, t118, t119, ↓reduceIte, twO, rdF, hF1, hgs, hF, rdF]
          have e : rn 165 0 [some (.ref m)] [] N = some (some (.int 1), sI N m (va_up (va_up (va_up (va_up (va_up (va_up (va_up r0 12 (hT T l p)) 11 (nI (p + 1))) 11 (nI (p + 1 + 1))) 13 (gT T l (p + 1) - 97)) 11 (nI (p + 1 + 1 + 1))) 11 (nI (p + 1 + 1 + 1 + 1))) 14 (gT T l (p + 1 + 1 + 1) - 97))) := by
            simp only [t165_0, t165_1, t165_2, t165_3, t165_6, t165_9, t165_12, t165_13, t165_14, t165_17, t165_18, t165_19, t165_22, t165_23, t165_26, t165_120, t165_121, t165_122, t165_125, t165_128, t165_129, t165_130, t165_133, t165_136, t165_137, t165_139, t165_142, t165_145, t165_146, t165_149, t165_152, t165_153, t165_156, t165_157, t165_160, t165_163, t165_164, t165_167, t165_168, t165_169, t165_170, t165_171, t165_174, t165_177, t165_178, t165_179, t165_182, t165_185, t165_186, t165_188, t165_191, t165_194, t165_195, t165_198, t165_201, t165_202, t165_205, t165_206, t165_209, t165_212, t165_213, t165_216, t165_217, t165_218, t165_219, t165_220, t165_223, t165_226, t165_227, t165_230, t165_233, t165_234, t165_237, t165_238, t165_239, t165_240, t165_241, t165_244, t165_247, t165_248, t165_251, t165_254, t165_255, t165_258, t165_259, t165_260, t165_261, t165_262, t165_265, t165_268, t165_269, t165_270, t165_273, t165_276, t165_277, t165_279, t165_282, t165_285, t165_286, t165_289, t165_292, t165_293, t165_296, t165_297, t165_300, t165_303, t165_304, t165_307, t165_308, t165_309, t165_310, t165_311, t165_312, t165_313, t165_316, t165_317, t165_318, t165_321, t165_322, g100, g102, g108, g109, g110, g114, g118, g119, t100, t102, t108, t109, t110, t114, t118, t119, hm, ha, hc, m1, cbn_i, mK_sI, mI_sI, sI_sI, ← hr0, e11, e12, va_up_self, n1, or_true, true_or, not_true_eq_false, not_false_eq_true, one0, ↓reduceIte, h1, h2, h3, nn2, nn1]
          rw [er]
          refine ⟨va_up (va_up (va_up (va_up (va_up (va_up (va_up r0 12 (hT T l p)) 11 (nI (p + 1))) 11 (nI (p + 1 + 1))) 13 (gT T l (p + 1) - 97)) 11 (nI (p + 1 + 1 + 1))) 11 (nI (p + 1 + 1 + 1 + 1))) 14 (gT T l (p + 1 + 1 + 1) - 97), e, ?_, ?_, ?_, ?_⟩
          · simp [va_up, r3]
          · simp [va_up, r7]
          · simp [va_up]
          · exact fun _ => ⟨by simp [va_up, hgl], fun _ => by simp [va_up, hv1], fun _ => by simp [va_up, hv2]⟩
        | false =>
          rw [if_neg (by rw [hF]; decide)] at h3
          have er : rdO (gT T l) p = (false, p + 1 + 1 + 1, 0, 0) := by
            unfold rdO
            simp only [t100, t102, t108, t109, t110, t114, t118, t119, ↓reduceIte, twO, rdF, hF1, hgs, hF, rdF, Bool.false_eq_true]
          have e : rn 165 0 [some (.ref m)] [] N = some (some (.int 0), sI N m (va_up (va_up (va_up (va_up (va_up (va_up r0 12 (hT T l p)) 11 (nI (p + 1))) 11 (nI (p + 1 + 1))) 13 (gT T l (p + 1) - 97)) 11 (nI (p + 1 + 1 + 1))) 14 (-1))) := by
            simp only [t165_0, t165_1, t165_2, t165_3, t165_6, t165_9, t165_12, t165_13, t165_14, t165_17, t165_18, t165_19, t165_22, t165_23, t165_26, t165_120, t165_121, t165_122, t165_125, t165_128, t165_129, t165_130, t165_133, t165_136, t165_137, t165_139, t165_142, t165_145, t165_146, t165_149, t165_152, t165_153, t165_156, t165_157, t165_160, t165_163, t165_164, t165_167, t165_168, t165_169, t165_170, t165_171, t165_174, t165_177, t165_178, t165_179, t165_182, t165_185, t165_186, t165_188, t165_191, t165_194, t165_195, t165_198, t165_201, t165_202, t165_205, t165_206, t165_209, t165_212, t165_213, t165_216, t165_217, t165_218, t165_219, t165_220, t165_223, t165_226, t165_227, t165_230, t165_233, t165_234, t165_237, t165_238, t165_239, t165_240, t165_241, t165_244, t165_247, t165_248, t165_251, t165_254, t165_255, t165_258, t165_259, t165_260, t165_261, t165_262, t165_265, t165_268, t165_269, t165_270, t165_273, t165_276, t165_277, t165_279, t165_282, t165_285, t165_286, t165_289, t165_292, t165_293, t165_296, t165_297, t165_300, t165_303, t165_304, t165_307, t165_308, t165_309, t165_310, t165_311, t165_312, t165_313, t165_316, t165_317, t165_318, t165_321, t165_322, g100, g102, g108, g109, g110, g114, g118, g119, t100, t102, t108, t109, t110, t114, t118, t119, hm, ha, hc, m1, cbn_i, mK_sI, mI_sI, sI_sI, ← hr0, e11, e12, va_up_self, n1, or_true, true_or, not_true_eq_false, not_false_eq_true, one0, ↓reduceIte, h1, h2, h3, nn1]
          rw [er]
          refine ⟨va_up (va_up (va_up (va_up (va_up (va_up r0 12 (hT T l p)) 11 (nI (p + 1))) 11 (nI (p + 1 + 1))) 13 (gT T l (p + 1) - 97)) 11 (nI (p + 1 + 1 + 1))) 14 (-1), e, ?_, ?_, ?_, ?_⟩
          · simp [va_up, r3]
          · simp [va_up, r7]
          · simp [va_up]
          · intro z; cases z
      · rw [if_neg hgs] at h2
        have er : rdO (gT T l) p = (false, p + 1 + 1, 0, 0) := by
          unfold rdO
          simp only [t100, t102, t108, t109, t110, t114, t118, t119, ↓reduceIte, twO, rdF, hF1, hgs]
        have e : rn 165 0 [some (.ref m)] [] N = some (some (.int 0), sI N m (va_up (va_up (va_up (va_up (va_up r0 12 (hT T l p)) 11 (nI (p + 1))) 11 (nI (p + 1 + 1))) 13 (gT T l (p + 1) - 97)) 14 (-1))) := by
          simp only [t165_0, t165_1, t165_2, t165_3, t165_6, t165_9, t165_12, t165_13, t165_14, t165_17, t165_18, t165_19, t165_22, t165_23, t165_26, t165_120, t165_121, t165_122, t165_125, t165_128, t165_129, t165_130, t165_133, t165_136, t165_137, t165_139, t165_142, t165_145, t165_146, t165_149, t165_152, t165_153, t165_156, t165_157, t165_160, t165_163, t165_164, t165_167, t165_168, t165_169, t165_170, t165_171, t165_174, t165_177, t165_178, t165_179, t165_182, t165_185, t165_186, t165_188, t165_191, t165_194, t165_195, t165_198, t165_201, t165_202, t165_205, t165_206, t165_209, t165_212, t165_213, t165_216, t165_217, t165_218, t165_219, t165_220, t165_223, t165_226, t165_227, t165_230, t165_233, t165_234, t165_237, t165_238, t165_239, t165_240, t165_241, t165_244, t165_247, t165_248, t165_251, t165_254, t165_255, t165_258, t165_259, t165_260, t165_261, t165_262, t165_265, t165_268, t165_269, t165_270, t165_273, t165_276, t165_277, t165_279, t165_282, t165_285, t165_286, t165_289, t165_292, t165_293, t165_296, t165_297, t165_300, t165_303, t165_304, t165_307, t165_308, t165_309, t165_310, t165_311, t165_312, t165_313, t165_316, t165_317, t165_318, t165_321, t165_322, g100, g102, g108, g109, g110, g114, g118, g119, t100, t102, t108, t109, t110, t114, t118, t119, hm, ha, hc, m1, cbn_i, mK_sI, mI_sI, sI_sI, ← hr0, e11, e12, va_up_self, n1, or_true, true_or, not_true_eq_false, not_false_eq_true, one0, ↓reduceIte, h1, h2, nn1]
        rw [er]
        refine ⟨va_up (va_up (va_up (va_up (va_up r0 12 (hT T l p)) 11 (nI (p + 1))) 11 (nI (p + 1 + 1))) 13 (gT T l (p + 1) - 97)) 14 (-1), e, ?_, ?_, ?_, ?_⟩
        · simp [va_up, r3]
        · simp [va_up, r7]
        · simp [va_up]
        · intro z; cases z
    | false =>
      rw [if_neg (by rw [hF1]; decide)] at h1
      have er : rdO (gT T l) p = (false, p + 1, 0, 0) := by
        unfold rdO
        simp only [t100, t102, t108, t109, t110, t114, t118, t119, ↓reduceIte, twO, rdF, hF1, Bool.false_eq_true]
      have e : rn 165 0 [some (.ref m)] [] N = some (some (.int 0), sI N m (va_up (va_up (va_up (va_up r0 12 (hT T l p)) 11 (nI (p + 1))) 13 (-1)) 14 (-1))) := by
        simp only [t165_0, t165_1, t165_2, t165_3, t165_6, t165_9, t165_12, t165_13, t165_14, t165_17, t165_18, t165_19, t165_22, t165_23, t165_26, t165_120, t165_121, t165_122, t165_125, t165_128, t165_129, t165_130, t165_133, t165_136, t165_137, t165_139, t165_142, t165_145, t165_146, t165_149, t165_152, t165_153, t165_156, t165_157, t165_160, t165_163, t165_164, t165_167, t165_168, t165_169, t165_170, t165_171, t165_174, t165_177, t165_178, t165_179, t165_182, t165_185, t165_186, t165_188, t165_191, t165_194, t165_195, t165_198, t165_201, t165_202, t165_205, t165_206, t165_209, t165_212, t165_213, t165_216, t165_217, t165_218, t165_219, t165_220, t165_223, t165_226, t165_227, t165_230, t165_233, t165_234, t165_237, t165_238, t165_239, t165_240, t165_241, t165_244, t165_247, t165_248, t165_251, t165_254, t165_255, t165_258, t165_259, t165_260, t165_261, t165_262, t165_265, t165_268, t165_269, t165_270, t165_273, t165_276, t165_277, t165_279, t165_282, t165_285, t165_286, t165_289, t165_292, t165_293, t165_296, t165_297, t165_300, t165_303, t165_304, t165_307, t165_308, t165_309, t165_310, t165_311, t165_312, t165_313, t165_316, t165_317, t165_318, t165_321, t165_322, g100, g102, g108, g109, g110, g114, g118, g119, t100, t102, t108, t109, t110, t114, t118, t119, hm, ha, hc, m1, cbn_i, mK_sI, mI_sI, sI_sI, ← hr0, e11, e12, va_up_self, n1, or_true, true_or, not_true_eq_false, not_false_eq_true, one0, ↓reduceIte, h1]
      rw [er]
      refine ⟨va_up (va_up (va_up (va_up r0 12 (hT T l p)) 11 (nI (p + 1))) 13 (-1)) 14 (-1), e, ?_, ?_, ?_, ?_⟩
      · simp [va_up, r3]
      · simp [va_up, r7]
      · simp [va_up]
      · intro z; cases z
  by_cases n110 : gT T l p = 110
  · have hx := n110
    have t100 : (gT T l p = 100) = False := by rw [hx]; decide
    have t102 : (gT T l p = 102) = False := by rw [hx]; decide
    have t108 : (gT T l p = 108) = False := by rw [hx]; decide
    have t109 : (gT T l p = 109) = False := by rw [hx]; decide
    have t110 : (gT T l p = 110) = True := by rw [hx]; decide
    have t114 : (gT T l p = 114) = False := by rw [hx]; decide
    have t118 : (gT T l p = 118) = False := by rw [hx]; decide
    have t119 : (gT T l p = 119) = False := by rw [hx]; decide
    have hgl : hT T l p = gT T l p := hg_in (g_in (by rw [hx]; decide))
    have h1 := m_takeNum h (f := va_up (va_up r0 12 (hT T l p)) 11 (nI (p + 1))) (p := p + 1) (by simp [va_up, r7]) (by omega) (by simp [va_up])
    cases hF1 : rdN (gT T l) (p + 1) with
    | some r =>
      obtain ⟨a, q1⟩ := r
      rw [hF1] at h1
      dsimp only at h1
      have hq1 := rdN_v hF1
      have nn1 : (nI a < 0) = False := lt0 (by omega)
      have h2 := m_takes h (f := va_up (va_up (va_up (va_up r0 12 (hT T l p)) 11 (nI (p + 1))) 11 (nI (q1))) 13 (nI a)) (p := q1) (c := 60) (by simp [va_up, r7]) (by omega) (by simp [va_up]) (by decide) (by decide)
      by_cases hgs : gT T l (q1) = 60
      · rw [if_pos hgs] at h2
        have h3 := m_takeNum h (f := va_up (va_up (va_up (va_up (va_up r0 12 (hT T l p)) 11 (nI (p + 1))) 11 (nI (q1))) 13 (nI a)) 11 (nI (q1 + 1))) (p := q1 + 1) (by simp [va_up, r7]) (by omega) (by simp [va_up])
        cases hF : rdN (gT T l) (q1 + 1) with
        | some r =>
          obtain ⟨b, q2⟩ := r
          rw [hF] at h3
          dsimp only at h3
          have nn2 : (nI b < 0) = False := lt0 (by have := (rdN_v hF).1; omega)
          have er : rdO (gT T l) p = (true, q2, a, b) := by
            unfold rdO
            simp only [t100, t102, t108, t109, t110, t114, t118, t119, ↓reduceIte, twO, hF1, hgs, hF]
          have e : rn 165 0 [some (.ref m)] [] N = some (some (.int 1), sI N m (va_up (va_up (va_up (va_up (va_up (va_up (va_up r0 12 (hT T l p)) 11 (nI (p + 1))) 11 (nI (q1))) 13 (nI a)) 11 (nI (q1 + 1))) 11 (nI q2)) 14 (nI b))) := by
            simp only [t165_0, t165_1, t165_2, t165_3, t165_6, t165_9, t165_12, t165_13, t165_14, t165_17, t165_18, t165_19, t165_22, t165_23, t165_26, t165_120, t165_121, t165_122, t165_125, t165_128, t165_129, t165_130, t165_133, t165_136, t165_137, t165_139, t165_142, t165_145, t165_146, t165_149, t165_152, t165_153, t165_156, t165_157, t165_160, t165_163, t165_164, t165_167, t165_168, t165_169, t165_170, t165_171, t165_174, t165_177, t165_178, t165_179, t165_182, t165_185, t165_186, t165_188, t165_191, t165_194, t165_195, t165_198, t165_201, t165_202, t165_205, t165_206, t165_209, t165_212, t165_213, t165_216, t165_217, t165_218, t165_219, t165_220, t165_223, t165_226, t165_227, t165_230, t165_233, t165_234, t165_237, t165_238, t165_239, t165_240, t165_241, t165_244, t165_247, t165_248, t165_251, t165_254, t165_255, t165_258, t165_259, t165_260, t165_261, t165_262, t165_265, t165_268, t165_269, t165_270, t165_273, t165_276, t165_277, t165_279, t165_282, t165_285, t165_286, t165_289, t165_292, t165_293, t165_296, t165_297, t165_300, t165_303, t165_304, t165_307, t165_308, t165_309, t165_310, t165_311, t165_312, t165_313, t165_316, t165_317, t165_318, t165_321, t165_322, g100, g102, g108, g109, g110, g114, g118, g119, t100, t102, t108, t109, t110, t114, t118, t119, hm, ha, hc, m1, cbn_i, mK_sI, mI_sI, sI_sI, ← hr0, e11, e12, va_up_self, n1, or_true, true_or, not_true_eq_false, not_false_eq_true, one0, ↓reduceIte, h1, h2, h3, nn2, nn1]
          rw [er]
          refine ⟨va_up (va_up (va_up (va_up (va_up (va_up (va_up r0 12 (hT T l p)) 11 (nI (p + 1))) 11 (nI (q1))) 13 (nI a)) 11 (nI (q1 + 1))) 11 (nI q2)) 14 (nI b), e, ?_, ?_, ?_, ?_⟩
          · simp [va_up, r3]
          · simp [va_up, r7]
          · simp [va_up]
          · exact fun _ => ⟨by simp [va_up, hgl], fun _ => by simp [va_up], fun _ => by simp [va_up]⟩
        | none =>
          rw [hF] at h3
          dsimp only at h3
          have er : rdO (gT T l) p = (false, q1 + 1, 0, 0) := by
            unfold rdO
            simp only [t100, t102, t108, t109, t110, t114, t118, t119, ↓reduceIte, twO, hF1, hgs, hF]
          have e : rn 165 0 [some (.ref m)] [] N = some (some (.int 0), sI N m (va_up (va_up (va_up (va_up (va_up (va_up r0 12 (hT T l p)) 11 (nI (p + 1))) 11 (nI (q1))) 13 (nI a)) 11 (nI (q1 + 1))) 14 (-1))) := by
            simp only [t165_0, t165_1, t165_2, t165_3, t165_6, t165_9, t165_12, t165_13, t165_14, t165_17, t165_18, t165_19, t165_22, t165_23, t165_26, t165_120, t165_121, t165_122, t165_125, t165_128, t165_129, t165_130, t165_133, t165_136, t165_137, t165_139, t165_142, t165_145, t165_146, t165_149, t165_152, t165_153, t165_156, t165_157, t165_160, t165_163, t165_164, t165_167, t165_168, t165_169, t165_170, t165_171, t165_174, t165_177, t165_178, t165_179, t165_182, t165_185, t165_186, t165_188, t165_191, t165_194, t165_195, t165_198, t165_201, t165_202, t165_205, t165_206, t165_209, t165_212, t165_213, t165_216, t165_217, t165_218, t165_219, t165_220, t165_223, t165_226, t165_227, t165_230, t165_233, t165_234, t165_237, t165_238, t165_239, t165_240, t165_241, t165_244, t165_247, t165_248, t165_251, t165_254, t165_255, t165_258, t165_259, t165_260, t165_261, t165_262, t165_265, t165_268, t165_269, t165_270, t165_273, t165_276, t165_277, t165_279, t165_282, t165_285, t165_286, t165_289, t165_292, t165_293, t165_296, t165_297, t165_300, t165_303, t165_304, t165_307, t165_308, t165_309, t165_310, t165_311, t165_312, t165_313, t165_316, t165_317, t165_318, t165_321, t165_322, g100, g102, g108, g109, g110, g114, g118, g119, t100, t102, t108, t109, t110, t114, t118, t119, hm, ha, hc, m1, cbn_i, mK_sI, mI_sI, sI_sI, ← hr0, e11, e12, va_up_self, n1, or_true, true_or, not_true_eq_false, not_false_eq_true, one0, ↓reduceIte, h1, h2, h3, nn1]
          rw [er]
          refine ⟨va_up (va_up (va_up (va_up (va_up (va_up r0 12 (hT T l p)) 11 (nI (p + 1))) 11 (nI (q1))) 13 (nI a)) 11 (nI (q1 + 1))) 14 (-1), e, ?_, ?_, ?_, ?_⟩
          · simp [va_up, r3]
          · simp [va_up, r7]
          · simp [va_up]
          · intro z; cases z
      · rw [if_neg hgs] at h2
        have er : rdO (gT T l) p = (false, q1, 0, 0) := by
          unfold rdO
          simp only [t100, t102, t108, t109, t110, t114, t118, t119, ↓reduceIte, twO, hF1, hgs]
        have e : rn 165 0 [some (.ref m)] [] N = some (some (.int 0), sI N m (va_up (va_up (va_up (va_up (va_up r0 12 (hT T l p)) 11 (nI (p + 1))) 11 (nI (q1))) 13 (nI a)) 14 (-1))) := by
          simp only [t165_0, t165_1, t165_2, t165_3, t165_6, t165_9, t165_12, t165_13, t165_14, t165_17, t165_18, t165_19, t165_22, t165_23, t165_26, t165_120, t165_121, t165_122, t165_125, t165_128, t165_129, t165_130, t165_133, t165_136, t165_137, t165_139, t165_142, t165_145, t165_146, t165_149, t165_152, t165_153, t165_156, t165_157, t165_160, t165_163, t165_164, t165_167, t165_168, t165_169, t165_170, t165_171, t165_174, t165_177, t165_178, t165_179, t165_182, t165_185, t165_186, t165_188, t165_191, t165_194, t165_195, t165_198, t165_201, t165_202, t165_205, t165_206, t165_209, t165_212, t165_213, t165_216, t165_217, t165_218, t165_219, t165_220, t165_223, t165_226, t165_227, t165_230, t165_233, t165_234, t165_237, t165_238, t165_239, t165_240, t165_241, t165_244, t165_247, t165_248, t165_251, t165_254, t165_255, t165_258, t165_259, t165_260, t165_261, t165_262, t165_265, t165_268, t165_269, t165_270, t165_273, t165_276, t165_277, t165_279, t165_282, t165_285, t165_286, t165_289, t165_292, t165_293, t165_296, t165_297, t165_300, t165_303, t165_304, t165_307, t165_308, t165_309, t165_310, t165_311, t165_312, t165_313, t165_316, t165_317, t165_318, t165_321, t165_322, g100, g102, g108, g109, g110, g114, g118, g119, t100, t102, t108, t109, t110, t114, t118, t119, hm, ha, hc, m1, cbn_i, mK_sI, mI_sI, sI_sI, ← hr0, e11, e12, va_up_self, n1, or_true, true_or, not_true_eq_false, not_false_eq_true, one0, ↓reduceIte, h1, h2, nn1]
        rw [er]
        refine ⟨va_up (va_up (va_up (va_up (va_up r0 12 (hT T l p)) 11 (nI (p + 1))) 11 (nI (q1))) 13 (nI a)) 14 (-1), e, ?_, ?_, ?_, ?_⟩
        · simp [va_up, r3]
        · simp [va_up, r7]
        · simp [va_up]
        · intro z; cases z
    | none =>
      rw [hF1] at h1
      dsimp only at h1
      have er : rdO (gT T l) p = (false, p + 1, 0, 0) := by
        unfold rdO
        simp only [t100, t102, t108, t109, t110, t114, t118, t119, ↓reduceIte, twO, hF1]
      have e : rn 165 0 [some (.ref m)] [] N = some (some (.int 0), sI N m (va_up (va_up (va_up (va_up r0 12 (hT T l p)) 11 (nI (p + 1))) 13 (-1)) 14 (-1))) := by
        simp only [t165_0, t165_1, t165_2, t165_3, t165_6, t165_9, t165_12, t165_13, t165_14, t165_17, t165_18, t165_19, t165_22, t165_23, t165_26, t165_120, t165_121, t165_122, t165_125, t165_128, t165_129, t165_130, t165_133, t165_136, t165_137, t165_139, t165_142, t165_145, t165_146, t165_149, t165_152, t165_153, t165_156, t165_157, t165_160, t165_163, t165_164, t165_167, t165_168, t165_169, t165_170, t165_171, t165_174, t165_177, t165_178, t165_179, t165_182, t165_185, t165_186, t165_188, t165_191, t165_194, t165_195, t165_198, t165_201, t165_202, t165_205, t165_206, t165_209, t165_212, t165_213, t165_216, t165_217, t165_218, t165_219, t165_220, t165_223, t165_226, t165_227, t165_230, t165_233, t165_234, t165_237, t165_238, t165_239, t165_240, t165_241, t165_244, t165_247, t165_248, t165_251, t165_254, t165_255, t165_258, t165_259, t165_260, t165_261, t165_262, t165_265, t165_268, t165_269, t165_270, t165_273, t165_276, t165_277, t165_279, t165_282, t165_285, t165_286, t165_289, t165_292, t165_293, t165_296, t165_297, t165_300, t165_303, t165_304, t165_307, t165_308, t165_309, t165_310, t165_311, t165_312, t165_313, t165_316, t165_317, t165_318, t165_321, t165_322, g100, g102, g108, g109, g110, g114, g118, g119, t100, t102, t108, t109, t110, t114, t118, t119, hm, ha, hc, m1, cbn_i, mK_sI, mI_sI, sI_sI, ← hr0, e11, e12, va_up_self, n1, or_true, true_or, not_true_eq_false, not_false_eq_true, one0, ↓reduceIte, h1]
      rw [er]
      refine ⟨va_up (va_up (va_up (va_up r0 12 (hT T l p)) 11 (nI (p + 1))) 13 (-1)) 14 (-1), e, ?_, ?_, ?_, ?_⟩
      · simp [va_up, r3]
      · simp [va_up, r7]
      · simp [va_up]
      · intro z; cases z
  by_cases n114 : gT T l p = 114
  · have hx := n114
    have t100 : (gT T l p = 100) = False := by rw [hx]; decide
    have t102 : (gT T l p = 102) = False := by rw [hx]; decide
    have t108 : (gT T l p = 108) = False := by rw [hx]; decide
    have t109 : (gT T l p = 109) = False := by rw [hx]; decide
    have t110 : (gT T l p = 110) = False := by rw [hx]; decide
    have t114 : (gT T l p = 114) = True := by rw [hx]; decide
    have t118 : (gT T l p = 118) = False := by rw [hx]; decide
    have t119 : (gT T l p = 119) = False := by rw [hx]; decide
    have hgl : hT T l p = gT T l p := hg_in (g_in (by rw [hx]; decide))
    have er : rdO (gT T l) p = (true, p + 1, 0, 0) := by
      unfold rdO
      simp only [t100, t102, t108, t109, t110, t114, t118, t119, ↓reduceIte]
    have e : rn 165 0 [some (.ref m)] [] N = some (some (.int 1), sI N m (va_up (va_up r0 12 (hT T l p)) 11 (nI (p + 1)))) := by
      simp only [t165_0, t165_1, t165_2, t165_3, t165_6, t165_9, t165_12, t165_13, t165_14, t165_17, t165_18, t165_19, t165_22, t165_23, t165_26, t165_120, t165_121, t165_122, t165_125, t165_128, t165_129, t165_130, t165_133, t165_136, t165_137, t165_139, t165_142, t165_145, t165_146, t165_149, t165_152, t165_153, t165_156, t165_157, t165_160, t165_163, t165_164, t165_167, t165_168, t165_169, t165_170, t165_171, t165_174, t165_177, t165_178, t165_179, t165_182, t165_185, t165_186, t165_188, t165_191, t165_194, t165_195, t165_198, t165_201, t165_202, t165_205, t165_206, t165_209, t165_212, t165_213, t165_216, t165_217, t165_218, t165_219, t165_220, t165_223, t165_226, t165_227, t165_230, t165_233, t165_234, t165_237, t165_238, t165_239, t165_240, t165_241, t165_244, t165_247, t165_248, t165_251, t165_254, t165_255, t165_258, t165_259, t165_260, t165_261, t165_262, t165_265, t165_268, t165_269, t165_270, t165_273, t165_276, t165_277, t165_279, t165_282, t165_285, t165_286, t165_289, t165_292, t165_293, t165_296, t165_297, t165_300, t165_303, t165_304, t165_307, t165_308, t165_309, t165_310, t165_311, t165_312, t165_313, t165_316, t165_317, t165_318, t165_321, t165_322, g100, g102, g108, g109, g110, g114, g118, g119, t100, t102, t108, t109, t110, t114, t118, t119, hm, ha, hc, m1, cbn_i, mK_sI, mI_sI, sI_sI, ← hr0, e11, e12, va_up_self, n1, or_true, true_or, not_true_eq_false, not_false_eq_true, one0, ↓reduceIte]
    rw [er]
    refine ⟨va_up (va_up r0 12 (hT T l p)) 11 (nI (p + 1)), e, ?_, ?_, ?_, ?_⟩
    · simp [va_up, r3]
    · simp [va_up, r7]
    · simp [va_up]
    · exact fun _ => ⟨by simp [va_up, hgl], fun z => absurd hx z, fun z => absurd z (by rw [hx]; unfold usB; decide)⟩
  by_cases n118 : gT T l p = 118
  · have hx := n118
    have t100 : (gT T l p = 100) = False := by rw [hx]; decide
    have t102 : (gT T l p = 102) = False := by rw [hx]; decide
    have t108 : (gT T l p = 108) = False := by rw [hx]; decide
    have t109 : (gT T l p = 109) = False := by rw [hx]; decide
    have t110 : (gT T l p = 110) = False := by rw [hx]; decide
    have t114 : (gT T l p = 114) = False := by rw [hx]; decide
    have t118 : (gT T l p = 118) = True := by rw [hx]; decide
    have t119 : (gT T l p = 119) = False := by rw [hx]; decide
    have hgl : hT T l p = gT T l p := hg_in (g_in (by rw [hx]; decide))
    have h1 := m_takeFile h (f := va_up (va_up r0 12 (hT T l p)) 11 (nI (p + 1))) (p := p + 1) (by simp [va_up, r7]) (by omega) (by simp [va_up])
    cases hF1 : isF (gT T l (p + 1) - 97) with
    | true =>
      rw [if_pos hF1] at h1
      have hv1 := fl_n hF1
      have nn1 := isF_nn hF1
      have h2 := m_takes h (f := va_up (va_up (va_up (va_up r0 12 (hT T l p)) 11 (nI (p + 1))) 11 (nI (p + 1 + 1))) 13 (gT T l (p + 1) - 97)) (p := p + 1 + 1) (c := 47) (by simp [va_up, r7]) (by omega) (by simp [va_up]) (by decide) (by decide)
      by_cases hgs : gT T l (p + 1 + 1) = 47
      · rw [if_pos hgs] at h2
        have h3 := m_takeFile h (f := va_up (va_up (va_up (va_up (va_up r0 12 (hT T l p)) 11 (nI (p + 1))) 11 (nI (p + 1 + 1))) 13 (gT T l (p + 1) - 97)) 11 (nI (p + 1 + 1 + 1))) (p := p + 1 + 1 + 1) (by simp [va_up, r7]) (by omega) (by simp [va_up])
        cases hF : isF (gT T l (p + 1 + 1 + 1) - 97) with
        | true =>
          rw [if_pos hF] at h3
          have hv2 := fl_n hF
          have nn2 := isF_nn hF
          have er : rdO (gT T l) p = (true, p + 1 + 1 + 1 + 1, (gT T l (p + 1) - 97).toNatClampNeg, (gT T l (p + 1 + 1 + 1) - 97).toNatClampNeg) := by
            unfold rdO
            simp only [t100, t102, t108, t109, t110, t114, t118, t119, ↓reduceIte, twO, rdF, hF1, hgs, hF, rdF]
          have e : rn 165 0 [some (.ref m)] [] N = some (some (.int 1), sI N m (va_up (va_up (va_up (va_up (va_up (va_up (va_up r0 12 (hT T l p)) 11 (nI (p + 1))) 11 (nI (p + 1 + 1))) 13 (gT T l (p + 1) - 97)) 11 (nI (p + 1 + 1 + 1))) 11 (nI (p + 1 + 1 + 1 + 1))) 14 (gT T l (p + 1 + 1 + 1) - 97))) := by
            simp only [t165_0, t165_1, t165_2, t165_3, t165_6, t165_9, t165_12, t165_13, t165_14, t165_17, t165_18, t165_19, t165_22, t165_23, t165_26, t165_120, t165_121, t165_122, t165_125, t165_128, t165_129, t165_130, t165_133, t165_136, t165_137, t165_139, t165_142, t165_145, t165_146, t165_149, t165_152, t165_153, t165_156, t165_157, t165_160, t165_163, t165_164, t165_167, t165_168, t165_169, t165_170, t165_171, t165_174, t165_177, t165_178, t165_179, t165_182, t165_185, t165_186, t165_188, t165_191, t165_194, t165_195, t165_198, t165_201, t165_202, t165_205, t165_206, t165_209, t165_212, t165_213, t165_216, t165_217, t165_218, t165_219, t165_220, t165_223, t165_226, t165_227, t165_230, t165_233, t165_234, t165_237, t165_238, t165_239, t165_240, t165_241, t165_244, t165_247, t165_248, t165_251, t165_254, t165_255, t165_258, t165_259, t165_260, t165_261, t165_262, t165_265, t165_268, t165_269, t165_270, t165_273, t165_276, t165_277, t165_279, t165_282, t165_285, t165_286, t165_289, t165_292, t165_293, t165_296, t165_297, t165_300, t165_303, t165_304, t165_307, t165_308, t165_309, t165_310, t165_311, t165_312, t165_313, t165_316, t165_317, t165_318, t165_321, t165_322, g100, g102, g108, g109, g110, g114, g118, g119, t100, t102, t108, t109, t110, t114, t118, t119, hm, ha, hc, m1, cbn_i, mK_sI, mI_sI, sI_sI, ← hr0, e11, e12, va_up_self, n1, or_true, true_or, not_true_eq_false, not_false_eq_true, one0, ↓reduceIte, h1, h2, h3, nn2, nn1]
          rw [er]
          refine ⟨va_up (va_up (va_up (va_up (va_up (va_up (va_up r0 12 (hT T l p)) 11 (nI (p + 1))) 11 (nI (p + 1 + 1))) 13 (gT T l (p + 1) - 97)) 11 (nI (p + 1 + 1 + 1))) 11 (nI (p + 1 + 1 + 1 + 1))) 14 (gT T l (p + 1 + 1 + 1) - 97), e, ?_, ?_, ?_, ?_⟩
          · simp [va_up, r3]
          · simp [va_up, r7]
          · simp [va_up]
          · exact fun _ => ⟨by simp [va_up, hgl], fun _ => by simp [va_up, hv1], fun _ => by simp [va_up, hv2]⟩
        | false =>
          rw [if_neg (by rw [hF]; decide)] at h3
          have er : rdO (gT T l) p = (false, p + 1 + 1 + 1, 0, 0) := by
            unfold rdO
            simp only [t100, t102, t108, t109, t110, t114, t118, t119, ↓reduceIte, twO, rdF, hF1, hgs, hF, rdF, Bool.false_eq_true]
          have e : rn 165 0 [some (.ref m)] [] N = some (some (.int 0), sI N m (va_up (va_up (va_up (va_up (va_up (va_up r0 12 (hT T l p)) 11 (nI (p + 1))) 11 (nI (p + 1 + 1))) 13 (gT T l (p + 1) - 97)) 11 (nI (p + 1 + 1 + 1))) 14 (-1))) := by
            simp only [t165_0, t165_1, t165_2, t165_3, t165_6, t165_9, t165_12, t165_13, t165_14, t165_17, t165_18, t165_19, t165_22, t165_23, t165_26, t165_120, t165_121, t165_122, t165_125, t165_128, t165_129, t165_130, t165_133, t165_136, t165_137, t165_139, t165_142, t165_145, t165_146, t165_149, t165_152, t165_153, t165_156, t165_157, t165_160, t165_163, t165_164, t165_167, t165_168, t165_169, t165_170, t165_171, t165_174, t165_177, t165_178, t165_179, t165_182, t165_185, t165_186, t165_188, t165_191, t165_194, t165_195, t165_198, t165_201, t165_202, t165_205, t165_206, t165_209, t165_212, t165_213, t165_216, t165_217, t165_218, t165_219, t165_220, t165_223, t165_226, t165_227, t165_230, t165_233, t165_234, t165_237, t165_238, t165_239, t165_240, t165_241, t165_244, t165_247, t165_248, t165_251, t165_254, t165_255, t165_258, t165_259, t165_260, t165_261, t165_262, t165_265, t165_268, t165_269, t165_270, t165_273, t165_276, t165_277, t165_279, t165_282, t165_285, t165_286, t165_289, t165_292, t165_293, t165_296, t165_297, t165_300, t165_303, t165_304, t165_307, t165_308, t165_309, t165_310, t165_311, t165_312, t165_313, t165_316, t165_317, t165_318, t165_321, t165_322, g100, g102, g108, g109, g110, g114, g118, g119, t100, t102, t108, t109, t110, t114, t118, t119, hm, ha, hc, m1, cbn_i, mK_sI, mI_sI, sI_sI, ← hr0, e11, e12, va_up_self, n1, or_true, true_or, not_true_eq_false, not_false_eq_true, one0, ↓reduceIte, h1, h2, h3, nn1]
          rw [er]
          refine ⟨va_up (va_up (va_up (va_up (va_up (va_up r0 12 (hT T l p)) 11 (nI (p + 1))) 11 (nI (p + 1 + 1))) 13 (gT T l (p + 1) - 97)) 11 (nI (p + 1 + 1 + 1))) 14 (-1), e, ?_, ?_, ?_, ?_⟩
          · simp [va_up, r3]
          · simp [va_up, r7]
          · simp [va_up]
          · intro z; cases z
      · rw [if_neg hgs] at h2
        have er : rdO (gT T l) p = (false, p + 1 + 1, 0, 0) := by
          unfold rdO
          simp only [t100, t102, t108, t109, t110, t114, t118, t119, ↓reduceIte, twO, rdF, hF1, hgs]
        have e : rn 165 0 [some (.ref m)] [] N = some (some (.int 0), sI N m (va_up (va_up (va_up (va_up (va_up r0 12 (hT T l p)) 11 (nI (p + 1))) 11 (nI (p + 1 + 1))) 13 (gT T l (p + 1) - 97)) 14 (-1))) := by
          simp only [t165_0, t165_1, t165_2, t165_3, t165_6, t165_9, t165_12, t165_13, t165_14, t165_17, t165_18, t165_19, t165_22, t165_23, t165_26, t165_120, t165_121, t165_122, t165_125, t165_128, t165_129, t165_130, t165_133, t165_136, t165_137, t165_139, t165_142, t165_145, t165_146, t165_149, t165_152, t165_153, t165_156, t165_157, t165_160, t165_163, t165_164, t165_167, t165_168, t165_169, t165_170, t165_171, t165_174, t165_177, t165_178, t165_179, t165_182, t165_185, t165_186, t165_188, t165_191, t165_194, t165_195, t165_198, t165_201, t165_202, t165_205, t165_206, t165_209, t165_212, t165_213, t165_216, t165_217, t165_218, t165_219, t165_220, t165_223, t165_226, t165_227, t165_230, t165_233, t165_234, t165_237, t165_238, t165_239, t165_240, t165_241, t165_244, t165_247, t165_248, t165_251, t165_254, t165_255, t165_258, t165_259, t165_260, t165_261, t165_262, t165_265, t165_268, t165_269, t165_270, t165_273, t165_276, t165_277, t165_279, t165_282, t165_285, t165_286, t165_289, t165_292, t165_293, t165_296, t165_297, t165_300, t165_303, t165_304, t165_307, t165_308, t165_309, t165_310, t165_311, t165_312, t165_313, t165_316, t165_317, t165_318, t165_321, t165_322, g100, g102, g108, g109, g110, g114, g118, g119, t100, t102, t108, t109, t110, t114, t118, t119, hm, ha, hc, m1, cbn_i, mK_sI, mI_sI, sI_sI, ← hr0, e11, e12, va_up_self, n1, or_true, true_or, not_true_eq_false, not_false_eq_true, one0, ↓reduceIte, h1, h2, nn1]
        rw [er]
        refine ⟨va_up (va_up (va_up (va_up (va_up r0 12 (hT T l p)) 11 (nI (p + 1))) 11 (nI (p + 1 + 1))) 13 (gT T l (p + 1) - 97)) 14 (-1), e, ?_, ?_, ?_, ?_⟩
        · simp [va_up, r3]
        · simp [va_up, r7]
        · simp [va_up]
        · intro z; cases z
    | false =>
      rw [if_neg (by rw [hF1]; decide)] at h1
      have er : rdO (gT T l) p = (false, p + 1, 0, 0) := by
        unfold rdO
        simp only [t100, t102, t108, t109, t110, t114, t118, t119, ↓reduceIte, twO, rdF, hF1, Bool.false_eq_true]
      have e : rn 165 0 [some (.ref m)] [] N = some (some (.int 0), sI N m (va_up (va_up (va_up (va_up r0 12 (hT T l p)) 11 (nI (p + 1))) 13 (-1)) 14 (-1))) := by
        simp only [t165_0, t165_1, t165_2, t165_3, t165_6, t165_9, t165_12, t165_13, t165_14, t165_17, t165_18, t165_19, t165_22, t165_23, t165_26, t165_120, t165_121, t165_122, t165_125, t165_128, t165_129, t165_130, t165_133, t165_136, t165_137, t165_139, t165_142, t165_145, t165_146, t165_149, t165_152, t165_153, t165_156, t165_157, t165_160, t165_163, t165_164, t165_167, t165_168, t165_169, t165_170, t165_171, t165_174, t165_177, t165_178, t165_179, t165_182, t165_185, t165_186, t165_188, t165_191, t165_194, t165_195, t165_198, t165_201, t165_202, t165_205, t165_206, t165_209, t165_212, t165_213, t165_216, t165_217, t165_218, t165_219, t165_220, t165_223, t165_226, t165_227, t165_230, t165_233, t165_234, t165_237, t165_238, t165_239, t165_240, t165_241, t165_244, t165_247, t165_248, t165_251, t165_254, t165_255, t165_258, t165_259, t165_260, t165_261, t165_262, t165_265, t165_268, t165_269, t165_270, t165_273, t165_276, t165_277, t165_279, t165_282, t165_285, t165_286, t165_289, t165_292, t165_293, t165_296, t165_297, t165_300, t165_303, t165_304, t165_307, t165_308, t165_309, t165_310, t165_311, t165_312, t165_313, t165_316, t165_317, t165_318, t165_321, t165_322, g100, g102, g108, g109, g110, g114, g118, g119, t100, t102, t108, t109, t110, t114, t118, t119, hm, ha, hc, m1, cbn_i, mK_sI, mI_sI, sI_sI, ← hr0, e11, e12, va_up_self, n1, or_true, true_or, not_true_eq_false, not_false_eq_true, one0, ↓reduceIte, h1]
      rw [er]
      refine ⟨va_up (va_up (va_up (va_up r0 12 (hT T l p)) 11 (nI (p + 1))) 13 (-1)) 14 (-1), e, ?_, ?_, ?_, ?_⟩
      · simp [va_up, r3]
      · simp [va_up, r7]
      · simp [va_up]
      · intro z; cases z
  by_cases n119 : gT T l p = 119
  · have hx := n119
    have t100 : (gT T l p = 100) = False := by rw [hx]; decide
    have t102 : (gT T l p = 102) = False := by rw [hx]; decide
    have t108 : (gT T l p = 108) = False := by rw [hx]; decide
    have t109 : (gT T l p = 109) = False := by rw [hx]; decide
    have t110 : (gT T l p = 110) = False := by rw [hx]; decide
    have t114 : (gT T l p = 114) = False := by rw [hx]; decide
    have t118 : (gT T l p = 118) = False := by rw [hx]; decide
    have t119 : (gT T l p = 119) = True := by rw [hx]; decide
    have hgl : hT T l p = gT T l p := hg_in (g_in (by rw [hx]; decide))
    have h1 := m_takeFile h (f := va_up (va_up r0 12 (hT T l p)) 11 (nI (p + 1))) (p := p + 1) (by simp [va_up, r7]) (by omega) (by simp [va_up])
    cases hF1 : isF (gT T l (p + 1) - 97) with
    | true =>
      rw [if_pos hF1] at h1
      have hv1 := fl_n hF1
      have nn1 := isF_nn hF1
      have h2 := m_takes h (f := va_up (va_up (va_up (va_up r0 12 (hT T l p)) 11 (nI (p + 1))) 11 (nI (p + 1 + 1))) 13 (gT T l (p + 1) - 97)) (p := p + 1 + 1) (c := 61) (by simp [va_up, r7]) (by omega) (by simp [va_up]) (by decide) (by decide)
      by_cases hgs : gT T l (p + 1 + 1) = 61
      · rw [if_pos hgs] at h2
        have h3 := m_takeNum h (f := va_up (va_up (va_up (va_up (va_up r0 12 (hT T l p)) 11 (nI (p + 1))) 11 (nI (p + 1 + 1))) 13 (gT T l (p + 1) - 97)) 11 (nI (p + 1 + 1 + 1))) (p := p + 1 + 1 + 1) (by simp [va_up, r7]) (by omega) (by simp [va_up])
        cases hF : rdN (gT T l) (p + 1 + 1 + 1) with
        | some r =>
          obtain ⟨b, q2⟩ := r
          rw [hF] at h3
          dsimp only at h3
          have nn2 : (nI b < 0) = False := lt0 (by have := (rdN_v hF).1; omega)
          have er : rdO (gT T l) p = (true, q2, (gT T l (p + 1) - 97).toNatClampNeg, b) := by
            unfold rdO
            simp only [t100, t102, t108, t109, t110, t114, t118, t119, ↓reduceIte, twO, rdF, hF1, hgs, hF]
          have e : rn 165 0 [some (.ref m)] [] N = some (some (.int 1), sI N m (va_up (va_up (va_up (va_up (va_up (va_up (va_up r0 12 (hT T l p)) 11 (nI (p + 1))) 11 (nI (p + 1 + 1))) 13 (gT T l (p + 1) - 97)) 11 (nI (p + 1 + 1 + 1))) 11 (nI q2)) 14 (nI b))) := by
            simp only [t165_0, t165_1, t165_2, t165_3, t165_6, t165_9, t165_12, t165_13, t165_14, t165_17, t165_18, t165_19, t165_22, t165_23, t165_26, t165_120, t165_121, t165_122, t165_125, t165_128, t165_129, t165_130, t165_133, t165_136, t165_137, t165_139, t165_142, t165_145, t165_146, t165_149, t165_152, t165_153, t165_156, t165_157, t165_160, t165_163, t165_164, t165_167, t165_168, t165_169, t165_170, t165_171, t165_174, t165_177, t165_178, t165_179, t165_182, t165_185, t165_186, t165_188, t165_191, t165_194, t165_195, t165_198, t165_201, t165_202, t165_205, t165_206, t165_209, t165_212, t165_213, t165_216, t165_217, t165_218, t165_219, t165_220, t165_223, t165_226, t165_227, t165_230, t165_233, t165_234, t165_237, t165_238, t165_239, t165_240, t165_241, t165_244, t165_247, t165_248, t165_251, t165_254, t165_255, t165_258, t165_259, t165_260, t165_261, t165_262, t165_265, t165_268, t165_269, t165_270, t165_273, t165_276, t165_277, t165_279, t165_282, t165_285, t165_286, t165_289, t165_292, t165_293, t165_296, t165_297, t165_300, t165_303, t165_304, t165_307, t165_308, t165_309, t165_310, t165_311, t165_312, t165_313, t165_316, t165_317, t165_318, t165_321, t165_322, g100, g102, g108, g109, g110, g114, g118, g119, t100, t102, t108, t109, t110, t114, t118, t119, hm, ha, hc, m1, cbn_i, mK_sI, mI_sI, sI_sI, ← hr0, e11, e12, va_up_self, n1, or_true, true_or, not_true_eq_false, not_false_eq_true, one0, ↓reduceIte, h1, h2, h3, nn2, nn1]
          rw [er]
          refine ⟨va_up (va_up (va_up (va_up (va_up (va_up (va_up r0 12 (hT T l p)) 11 (nI (p + 1))) 11 (nI (p + 1 + 1))) 13 (gT T l (p + 1) - 97)) 11 (nI (p + 1 + 1 + 1))) 11 (nI q2)) 14 (nI b), e, ?_, ?_, ?_, ?_⟩
          · simp [va_up, r3]
          · simp [va_up, r7]
          · simp [va_up]
          · exact fun _ => ⟨by simp [va_up, hgl], fun _ => by simp [va_up, hv1], fun _ => by simp [va_up]⟩
        | none =>
          rw [hF] at h3
          dsimp only at h3
          have er : rdO (gT T l) p = (false, p + 1 + 1 + 1, 0, 0) := by
            unfold rdO
            simp only [t100, t102, t108, t109, t110, t114, t118, t119, ↓reduceIte, twO, rdF, hF1, hgs, hF]
          have e : rn 165 0 [some (.ref m)] [] N = some (some (.int 0), sI N m (va_up (va_up (va_up (va_up (va_up (va_up r0 12 (hT T l p)) 11 (nI (p + 1))) 11 (nI (p + 1 + 1))) 13 (gT T l (p + 1) - 97)) 11 (nI (p + 1 + 1 + 1))) 14 (-1))) := by
            simp only [t165_0, t165_1, t165_2, t165_3, t165_6, t165_9, t165_12, t165_13, t165_14, t165_17, t165_18, t165_19, t165_22, t165_23, t165_26, t165_120, t165_121, t165_122, t165_125, t165_128, t165_129, t165_130, t165_133, t165_136, t165_137, t165_139, t165_142, t165_145, t165_146, t165_149, t165_152, t165_153, t165_156, t165_157, t165_160, t165_163, t165_164, t165_167, t165_168, t165_169, t165_170, t165_171, t165_174, t165_177, t165_178, t165_179, t165_182, t165_185, t165_186, t165_188, t165_191, t165_194, t165_195, t165_198, t165_201, t165_202, t165_205, t165_206, t165_209, t165_212, t165_213, t165_216, t165_217, t165_218, t165_219, t165_220, t165_223, t165_226, t165_227, t165_230, t165_233, t165_234, t165_237, t165_238, t165_239, t165_240, t165_241, t165_244, t165_247, t165_248, t165_251, t165_254, t165_255, t165_258, t165_259, t165_260, t165_261, t165_262, t165_265, t165_268, t165_269, t165_270, t165_273, t165_276, t165_277, t165_279, t165_282, t165_285, t165_286, t165_289, t165_292, t165_293, t165_296, t165_297, t165_300, t165_303, t165_304, t165_307, t165_308, t165_309, t165_310, t165_311, t165_312, t165_313, t165_316, t165_317, t165_318, t165_321, t165_322, g100, g102, g108, g109, g110, g114, g118, g119, t100, t102, t108, t109, t110, t114, t118, t119, hm, ha, hc, m1, cbn_i, mK_sI, mI_sI, sI_sI, ← hr0, e11, e12, va_up_self, n1, or_true, true_or, not_true_eq_false, not_false_eq_true, one0, ↓reduceIte, h1, h2, h3, nn1]
          rw [er]
          refine ⟨va_up (va_up (va_up (va_up (va_up (va_up r0 12 (hT T l p)) 11 (nI (p + 1))) 11 (nI (p + 1 + 1))) 13 (gT T l (p + 1) - 97)) 11 (nI (p + 1 + 1 + 1))) 14 (-1), e, ?_, ?_, ?_, ?_⟩
          · simp [va_up, r3]
          · simp [va_up, r7]
          · simp [va_up]
          · intro z; cases z
      · rw [if_neg hgs] at h2
        have er : rdO (gT T l) p = (false, p + 1 + 1, 0, 0) := by
          unfold rdO
          simp only [t100, t102, t108, t109, t110, t114, t118, t119, ↓reduceIte, twO, rdF, hF1, hgs]
        have e : rn 165 0 [some (.ref m)] [] N = some (some (.int 0), sI N m (va_up (va_up (va_up (va_up (va_up r0 12 (hT T l p)) 11 (nI (p + 1))) 11 (nI (p + 1 + 1))) 13 (gT T l (p + 1) - 97)) 14 (-1))) := by
          simp only [t165_0, t165_1, t165_2, t165_3, t165_6, t165_9, t165_12, t165_13, t165_14, t165_17, t165_18, t165_19, t165_22, t165_23, t165_26, t165_120, t165_121, t165_122, t165_125, t165_128, t165_129, t165_130, t165_133, t165_136, t165_137, t165_139, t165_142, t165_145, t165_146, t165_149, t165_152, t165_153, t165_156, t165_157, t165_160, t165_163, t165_164, t165_167, t165_168, t165_169, t165_170, t165_171, t165_174, t165_177, t165_178, t165_179, t165_182, t165_185, t165_186, t165_188, t165_191, t165_194, t165_195, t165_198, t165_201, t165_202, t165_205, t165_206, t165_209, t165_212, t165_213, t165_216, t165_217, t165_218, t165_219, t165_220, t165_223, t165_226, t165_227, t165_230, t165_233, t165_234, t165_237, t165_238, t165_239, t165_240, t165_241, t165_244, t165_247, t165_248, t165_251, t165_254, t165_255, t165_258, t165_259, t165_260, t165_261, t165_262, t165_265, t165_268, t165_269, t165_270, t165_273, t165_276, t165_277, t165_279, t165_282, t165_285, t165_286, t165_289, t165_292, t165_293, t165_296, t165_297, t165_300, t165_303, t165_304, t165_307, t165_308, t165_309, t165_310, t165_311, t165_312, t165_313, t165_316, t165_317, t165_318, t165_321, t165_322, g100, g102, g108, g109, g110, g114, g118, g119, t100, t102, t108, t109, t110, t114, t118, t119, hm, ha, hc, m1, cbn_i, mK_sI, mI_sI, sI_sI, ← hr0, e11, e12, va_up_self, n1, or_true, true_or, not_true_eq_false, not_false_eq_true, one0, ↓reduceIte, h1, h2, nn1]
        rw [er]
        refine ⟨va_up (va_up (va_up (va_up (va_up r0 12 (hT T l p)) 11 (nI (p + 1))) 11 (nI (p + 1 + 1))) 13 (gT T l (p + 1) - 97)) 14 (-1), e, ?_, ?_, ?_, ?_⟩
        · simp [va_up, r3]
        · simp [va_up, r7]
        · simp [va_up]
        · intro z; cases z
    | false =>
      rw [if_neg (by rw [hF1]; decide)] at h1
      have er : rdO (gT T l) p = (false, p + 1, 0, 0) := by
        unfold rdO
        simp only [t100, t102, t108, t109, t110, t114, t118, t119, ↓reduceIte, twO, rdF, hF1, Bool.false_eq_true]
      have e : rn 165 0 [some (.ref m)] [] N = some (some (.int 0), sI N m (va_up (va_up (va_up (va_up r0 12 (hT T l p)) 11 (nI (p + 1))) 13 (-1)) 14 (-1))) := by
        simp only [t165_0, t165_1, t165_2, t165_3, t165_6, t165_9, t165_12, t165_13, t165_14, t165_17, t165_18, t165_19, t165_22, t165_23, t165_26, t165_120, t165_121, t165_122, t165_125, t165_128, t165_129, t165_130, t165_133, t165_136, t165_137, t165_139, t165_142, t165_145, t165_146, t165_149, t165_152, t165_153, t165_156, t165_157, t165_160, t165_163, t165_164, t165_167, t165_168, t165_169, t165_170, t165_171, t165_174, t165_177, t165_178, t165_179, t165_182, t165_185, t165_186, t165_188, t165_191, t165_194, t165_195, t165_198, t165_201, t165_202, t165_205, t165_206, t165_209, t165_212, t165_213, t165_216, t165_217, t165_218, t165_219, t165_220, t165_223, t165_226, t165_227, t165_230, t165_233, t165_234, t165_237, t165_238, t165_239, t165_240, t165_241, t165_244, t165_247, t165_248, t165_251, t165_254, t165_255, t165_258, t165_259, t165_260, t165_261, t165_262, t165_265, t165_268, t165_269, t165_270, t165_273, t165_276, t165_277, t165_279, t165_282, t165_285, t165_286, t165_289, t165_292, t165_293, t165_296, t165_297, t165_300, t165_303, t165_304, t165_307, t165_308, t165_309, t165_310, t165_311, t165_312, t165_313, t165_316, t165_317, t165_318, t165_321, t165_322, g100, g102, g108, g109, g110, g114, g118, g119, t100, t102, t108, t109, t110, t114, t118, t119, hm, ha, hc, m1, cbn_i, mK_sI, mI_sI, sI_sI, ← hr0, e11, e12, va_up_self, n1, or_true, true_or, not_true_eq_false, not_false_eq_true, one0, ↓reduceIte, h1]
      rw [er]
      refine ⟨va_up (va_up (va_up (va_up r0 12 (hT T l p)) 11 (nI (p + 1))) 13 (-1)) 14 (-1), e, ?_, ?_, ?_, ?_⟩
      · simp [va_up, r3]
      · simp [va_up, r7]
      · simp [va_up]
      · intro z; cases z
  have er : rdO (gT T l) p = (false, p, 0, 0) := by
    unfold rdO
    simp only [n100, n102, n108, n109, n110, n114, n118, n119, ↓reduceIte]
  have e11' : ∀ v u, va_up (va_up r0 12 v) 11 u 11 = u := fun v u => va_up_self _ _ _
  have e : rn 165 0 [some (.ref m)] [] N = some (some (.int 0), sI N m (va_up (va_up r0 12 (hT T l p)) 11 (nI p))) := by
    simp only [t165_0, t165_1, t165_2, t165_3, t165_6, t165_9, t165_12, t165_13, t165_14, t165_17, t165_18, t165_19, t165_22, t165_23, t165_26, t165_120, t165_121, t165_122, t165_125, t165_128, t165_129, t165_130, t165_133, t165_136, t165_137, t165_139, t165_142, t165_145, t165_146, t165_149, t165_152, t165_153, t165_156, t165_157, t165_160, t165_163, t165_164, t165_167, t165_168, t165_169, t165_170, t165_171, t165_174, t165_177, t165_178, t165_179, t165_182, t165_185, t165_186, t165_188, t165_191, t165_194, t165_195, t165_198, t165_201, t165_202, t165_205, t165_206, t165_209, t165_212, t165_213, t165_216, t165_217, t165_218, t165_219, t165_220, t165_223, t165_226, t165_227, t165_230, t165_233, t165_234, t165_237, t165_238, t165_239, t165_240, t165_241, t165_244, t165_247, t165_248, t165_251, t165_254, t165_255, t165_258, t165_259, t165_260, t165_261, t165_262, t165_265, t165_268, t165_269, t165_270, t165_273, t165_276, t165_277, t165_279, t165_282, t165_285, t165_286, t165_289, t165_292, t165_293, t165_296, t165_297, t165_300, t165_303, t165_304, t165_307, t165_308, t165_309, t165_310, t165_311, t165_312, t165_313, t165_316, t165_317, t165_318, t165_321, t165_322, g100, g102, g108, g109, g110, g114, g118, g119, n100, n102, n108, n109, n110, n114, n118, n119, hm, ha, hc, cbn_i, mK_sI, mI_sI, sI_sI, ← hr0, e11, e12, va_up_self, n1, nI_pred, va_up2, true_or, ↓reduceIte]
  rw [er]
  refine ⟨va_up (va_up r0 12 (hT T l p)) 11 (nI p), e, ?_, ?_, ?_, ?_⟩
  · simp [va_up, r3]
  · simp [va_up, r7]
  · simp [va_up]
  · intro z; cases z
