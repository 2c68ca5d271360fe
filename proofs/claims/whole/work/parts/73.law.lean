/-! the law: one round of its loop -/
theorem cases26 (x : Int32) : x = 0 ∨ x = 1 ∨ x = 2 ∨ x = 3 ∨ x = 4 ∨ x = 5 ∨ x = 6 ∨ x = 7 ∨ x = 8 ∨ x = 9 ∨ x = 10 ∨ x = 11 ∨ x = 12 ∨ x = 13 ∨ x = 14 ∨ x = 15 ∨ x = 16 ∨ x = 17 ∨ x = 18 ∨ x = 19 ∨ x = 20 ∨ x = 21 ∨ x = 22 ∨ x = 23 ∨ x = 24 ∨ x = 25 ∨ (¬ x = 0 ∧ ¬ x = 1 ∧ ¬ x = 2 ∧ ¬ x = 3 ∧ ¬ x = 4 ∧ ¬ x = 5 ∧ ¬ x = 6 ∧ ¬ x = 7 ∧ ¬ x = 8 ∧ ¬ x = 9 ∧ ¬ x = 10 ∧ ¬ x = 11 ∧ ¬ x = 12 ∧ ¬ x = 13 ∧ ¬ x = 14 ∧ ¬ x = 15 ∧ ¬ x = 16 ∧ ¬ x = 17 ∧ ¬ x = 18 ∧ ¬ x = 19 ∧ ¬ x = 20 ∧ ¬ x = 21 ∧ ¬ x = 22 ∧ ¬ x = 23 ∧ ¬ x = 24 ∧ ¬ x = 25) := by
  by_cases h0 : x = 0
  · exact Or.inl h0
  by_cases h1 : x = 1
  · exact Or.inr (Or.inl h1)
  by_cases h2 : x = 2
  · exact Or.inr (Or.inr (Or.inl h2))
  by_cases h3 : x = 3
  · exact Or.inr (Or.inr (Or.inr (Or.inl h3)))
  by_cases h4 : x = 4
  · exact Or.inr (Or.inr (Or.inr (Or.inr (Or.inl h4))))
  by_cases h5 : x = 5
  · exact Or.inr (Or.inr (Or.inr (Or.inr (Or.inr (Or.inl h5)))))
  by_cases h6 : x = 6
  · exact Or.inr (Or.inr (Or.inr (Or.inr (Or.inr (Or.inr (Or.inl h6))))))
  by_cases h7 : x = 7
  · exact Or.inr (Or.inr (Or.inr (Or.inr (Or.inr (Or.inr (Or.inr (Or.inl h7)))))))
  by_cases h8 : x = 8
  · exact Or.inr (Or.inr (Or.inr (Or.inr (Or.inr (Or.inr (Or.inr (Or.inr (Or.inl h8))))))))
  by_cases h9 : x = 9
  · exact Or.inr (Or.inr (Or.inr (Or.inr (Or.inr (Or.inr (Or.inr (Or.inr (Or.inr (Or.inl h9)))))))))
  by_cases h10 : x = 10
  · exact Or.inr (Or.inr (Or.inr (Or.inr (Or.inr (Or.inr (Or.inr (Or.inr (Or.inr (Or.inr (Or.inl h10))))))))))
  by_cases h11 : x = 11
  · exact Or.inr (Or.inr (Or.inr (Or.inr (Or.inr (Or.inr (Or.inr (Or.inr (Or.inr (Or.inr (Or.inr (Or.inl h11)))))))))))
  by_cases h12 : x = 12
  · exact Or.inr (Or.inr (Or.inr (Or.inr (Or.inr (Or.inr (Or.inr (Or.inr (Or.inr (Or.inr (Or.inr (Or.inr (Or.inl h12))))))))))))
  by_cases h13 : x = 13
  · exact Or.inr (Or.inr (Or.inr (Or.inr (Or.inr (Or.inr (Or.inr (Or.inr (Or.inr (Or.inr (Or.inr (Or.inr (Or.inr (Or.inl h13)))))))))))))
  by_cases h14 : x = 14
  · exact Or.inr (Or.inr (Or.inr (Or.inr (Or.inr (Or.inr (Or.inr (Or.inr (Or.inr (Or.inr (Or.inr (Or.inr (Or.inr (Or.inr (Or.inl h14))))))))))))))
  by_cases h15 : x = 15
  · exact Or.inr (Or.inr (Or.inr (Or.inr (Or.inr (Or.inr (Or.inr (Or.inr (Or.inr (Or.inr (Or.inr (Or.inr (Or.inr (Or.inr (Or.inr (Or.inl h15)))))))))))))))
  by_cases h16 : x = 16
  · exact Or.inr (Or.inr (Or.inr (Or.inr (Or.inr (Or.inr (Or.inr (Or.inr (Or.inr (Or.inr (Or.inr (Or.inr (Or.inr (Or.inr (Or.inr (Or.inr (Or.inl h16))))))))))))))))
  by_cases h17 : x = 17
  · exact Or.inr (Or.inr (Or.inr (Or.inr (Or.inr (Or.inr (Or.inr (Or.inr (Or.inr (Or.inr (Or.inr (Or.inr (Or.inr (Or.inr (Or.inr (Or.inr (Or.inr (Or.inl h17)))))))))))))))))
  by_cases h18 : x = 18
  · exact Or.inr (Or.inr (Or.inr (Or.inr (Or.inr (Or.inr (Or.inr (Or.inr (Or.inr (Or.inr (Or.inr (Or.inr (Or.inr (Or.inr (Or.inr (Or.inr (Or.inr (Or.inr (Or.inl h18))))))))))))))))))
  by_cases h19 : x = 19
  · exact Or.inr (Or.inr (Or.inr (Or.inr (Or.inr (Or.inr (Or.inr (Or.inr (Or.inr (Or.inr (Or.inr (Or.inr (Or.inr (Or.inr (Or.inr (Or.inr (Or.inr (Or.inr (Or.inr (Or.inl h19)))))))))))))))))))
  by_cases h20 : x = 20
  · exact Or.inr (Or.inr (Or.inr (Or.inr (Or.inr (Or.inr (Or.inr (Or.inr (Or.inr (Or.inr (Or.inr (Or.inr (Or.inr (Or.inr (Or.inr (Or.inr (Or.inr (Or.inr (Or.inr (Or.inr (Or.inl h20))))))))))))))))))))
  by_cases h21 : x = 21
  · exact Or.inr (Or.inr (Or.inr (Or.inr (Or.inr (Or.inr (Or.inr (Or.inr (Or.inr (Or.inr (Or.inr (Or.inr (Or.inr (Or.inr (Or.inr (Or.inr (Or.inr (Or.inr (Or.inr (Or.inr (Or.inr (Or.inl h21)))))))))))))))))))))
  by_cases h22 : x = 22
  · exact Or.inr (Or.inr (Or.inr (Or.inr (Or.inr (Or.inr (Or.inr (Or.inr (Or.inr (Or.inr (Or.inr (Or.inr (Or.inr (Or.inr (Or.inr (Or.inr (Or.inr (Or.inr (Or.inr (Or.inr (Or.inr (Or.inr (Or.inl h22))))))))))))))))))))))
  by_cases h23 : x = 23
  · exact Or.inr (Or.inr (Or.inr (Or.inr (Or.inr (Or.inr (Or.inr (Or.inr (Or.inr (Or.inr (Or.inr (Or.inr (Or.inr (Or.inr (Or.inr (Or.inr (Or.inr (Or.inr (Or.inr (Or.inr (Or.inr (Or.inr (Or.inr (Or.inl h23)))))))))))))))))))))))
  by_cases h24 : x = 24
  · exact Or.inr (Or.inr (Or.inr (Or.inr (Or.inr (Or.inr (Or.inr (Or.inr (Or.inr (Or.inr (Or.inr (Or.inr (Or.inr (Or.inr (Or.inr (Or.inr (Or.inr (Or.inr (Or.inr (Or.inr (Or.inr (Or.inr (Or.inr (Or.inr (Or.inl h24))))))))))))))))))))))))
  by_cases h25 : x = 25
  · exact Or.inr (Or.inr (Or.inr (Or.inr (Or.inr (Or.inr (Or.inr (Or.inr (Or.inr (Or.inr (Or.inr (Or.inr (Or.inr (Or.inr (Or.inr (Or.inr (Or.inr (Or.inr (Or.inr (Or.inr (Or.inr (Or.inr (Or.inr (Or.inr (Or.inr (Or.inl h25)))))))))))))))))))))))))
  exact Or.inr (Or.inr (Or.inr (Or.inr (Or.inr (Or.inr (Or.inr (Or.inr (Or.inr (Or.inr (Or.inr (Or.inr (Or.inr (Or.inr (Or.inr (Or.inr (Or.inr (Or.inr (Or.inr (Or.inr (Or.inr (Or.inr (Or.inr (Or.inr (Or.inr (Or.inr (⟨h0, h1, h2, h3, h4, h5, h6, h7, h8, h9, h10, h11, h12, h13, h14, h15, h16, h17, h18, h19, h20, h21, h22, h23, h24, h25⟩))))))))))))))))))))))))))
theorem law_step {M : SM} {b S L B j : Nat} {xs : Nat → Int32} (h : Rel M S b L xs B) (hB : B + 300 < 2147483648) (hj : j + 3 ≤ L) (hL : L ≤ 1536) : ∃ M', rn 176 26 [some (.ref b), some (.ref S), some (.ref (S + 148)), some (.int (nI j))] [] M = rn 176 763 [some (.ref b), some (.ref S), some (.ref (S + 148)), some (.int (nI j))] [] M' ∧ Rel M' S b L xs (B + 100) := by
  have K0 := h.1.1.1.1
  have KM := h.1.1.2.2.2.2.2.2.2.2.1.1
  obtain ⟨hbS, kb, -, -⟩ := h.1.1.2.2.2.2.2.2.2.2.2
  have xb := h.1.2.2.2.2
  have i0 : inR (nI j) L = True := i_inT (by omega) (by omega)
  have i1 : inR (nI (j + 1)) L = True := i_inT (by omega) (by omega)
  have i2 : inR (nI (j + 2)) L = True := i_inT (by omega) (by omega)
  have c0 := nI_c (show j < 2147483648 by omega)
  have c1 := nI_c (show j + 1 < 2147483648 by omega)
  have c2 := nI_c (show j + 2 < 2147483648 by omega)
  have a2 : nI j + 2 = nI (j + 2) := nI_add j 2
  have f51 : ((5 : Nat) = 1) = False := by decide
  generalize hy : xs (j + 1) = y
  generalize hz : xs (j + 2) = z
  generalize hc : xs j &&& 31 = c
  rcases cases26 c with hx | hx | hx | hx | hx | hx | hx | hx | hx | hx | hx | hx | hx | hx | hx | hx | hx | hx | hx | hx | hx | hx | hx | hx | hx | hx | hx
  · skip
    have t0 : (c = 0) = True := by rw [hx]; decide
    obtain ⟨a, M1, M2, low, r1, r2, r3⟩ := p_make h (by omega) y z
    have k1 : mK M1 = mK M := KK low.1
    have x1 : mI M1 b = xs := (low.2 b hbS).trans xb
    refine ⟨M2, ?_, r3.up (by omega)⟩
    simp only [t176_26, t176_27, t176_28, t176_29, t176_31, t176_32, t176_152, t176_153, t176_154, t176_155, t176_156, t176_157, t176_158, t176_159, t176_160, t176_161, t176_162, t176_163, t176_166, t176_167, t176_168, t176_169, t176_170, t176_171, t176_172, t176_173, t176_174, t176_175, t176_176, t176_177, t176_180, t176_183, t176_184, t0, kb, xb, i0, i1, i2, c0, c1, c2, n1, a2, hy, hz, hc, K0, f51, false_or, or_true, and_self, ↓reduceIte, cbn_i, r1, k1, x1, KM, r2]
  · skip
    have t0 : (c = 0) = False := by rw [hx]; decide
    have t1 : (c = 1) = True := by rw [hx]; decide
    obtain ⟨a, M1, M2, low, r1, r2, r3⟩ := p_write h (by omega) y z
    have k1 : mK M1 = mK M := KK low.1
    have x1 : mI M1 b = xs := (low.2 b hbS).trans xb
    refine ⟨M2, ?_, r3.up (by omega)⟩
    simp only [t176_26, t176_27, t176_28, t176_29, t176_31, t176_32, t176_185, t176_186, t176_187, t176_188, t176_189, t176_190, t176_191, t176_192, t176_193, t176_194, t176_195, t176_196, t176_199, t176_200, t176_201, t176_202, t176_203, t176_204, t176_205, t176_206, t176_207, t176_208, t176_209, t176_210, t176_213, t176_216, t176_217, t0, t1, kb, xb, i0, i1, i2, c0, c1, c2, n1, a2, hy, hz, hc, K0, f51, false_or, or_true, and_self, ↓reduceIte, cbn_i, r1, k1, x1, KM, r2]
  · skip
    have t0 : (c = 0) = False := by rw [hx]; decide
    have t1 : (c = 1) = False := by rw [hx]; decide
    have t2 : (c = 2) = True := by rw [hx]; decide
    obtain ⟨a, M1, M2, low, r1, r2, r3⟩ := p_move h (by omega) y z
    have k1 : mK M1 = mK M := KK low.1
    have x1 : mI M1 b = xs := (low.2 b hbS).trans xb
    refine ⟨M2, ?_, r3.up (by omega)⟩
    simp only [t176_26, t176_27, t176_28, t176_29, t176_31, t176_32, t176_218, t176_219, t176_220, t176_221, t176_222, t176_223, t176_224, t176_225, t176_226, t176_227, t176_228, t176_229, t176_232, t176_233, t176_234, t176_235, t176_236, t176_237, t176_238, t176_239, t176_240, t176_241, t176_242, t176_243, t176_246, t176_249, t176_250, t0, t1, t2, kb, xb, i0, i1, i2, c0, c1, c2, n1, a2, hy, hz, hc, K0, f51, false_or, or_true, and_self, ↓reduceIte, cbn_i, r1, k1, x1, KM, r2]
  · skip
    have t0 : (c = 0) = False := by rw [hx]; decide
    have t1 : (c = 1) = False := by rw [hx]; decide
    have t2 : (c = 2) = False := by rw [hx]; decide
    have t3 : (c = 3) = True := by rw [hx]; decide
    obtain ⟨a, M1, M2, low, r1, r2, r3⟩ := p_drop h (by omega) y
    have k1 : mK M1 = mK M := KK low.1
    have x1 : mI M1 b = xs := (low.2 b hbS).trans xb
    refine ⟨M2, ?_, r3.up (by omega)⟩
    simp only [t176_26, t176_27, t176_28, t176_29, t176_31, t176_32, t176_251, t176_252, t176_253, t176_254, t176_255, t176_256, t176_257, t176_260, t176_261, t176_262, t176_263, t176_264, t176_265, t176_266, t176_269, t176_272, t176_273, t0, t1, t2, t3, kb, xb, i0, i1, i2, c0, c1, c2, n1, a2, hy, hz, hc, K0, f51, false_or, or_true, and_self, ↓reduceIte, cbn_i, r1, k1, x1, KM, r2]
  · skip
    have t0 : (c = 0) = False := by rw [hx]; decide
    have t1 : (c = 1) = False := by rw [hx]; decide
    have t2 : (c = 2) = False := by rw [hx]; decide
    have t3 : (c = 3) = False := by rw [hx]; decide
    have t4 : (c = 4) = True := by rw [hx]; decide
    obtain ⟨a, M1, M2, low, r1, r2, r3⟩ := p_need h (by omega) y z
    have k1 : mK M1 = mK M := KK low.1
    have x1 : mI M1 b = xs := (low.2 b hbS).trans xb
    refine ⟨M2, ?_, r3.up (by omega)⟩
    simp only [t176_26, t176_27, t176_28, t176_29, t176_31, t176_32, t176_274, t176_275, t176_276, t176_277, t176_278, t176_279, t176_280, t176_281, t176_282, t176_283, t176_284, t176_285, t176_288, t176_289, t176_290, t176_291, t176_292, t176_293, t176_294, t176_295, t176_296, t176_297, t176_298, t176_299, t176_302, t176_305, t176_306, t0, t1, t2, t3, t4, kb, xb, i0, i1, i2, c0, c1, c2, n1, a2, hy, hz, hc, K0, f51, false_or, or_true, and_self, ↓reduceIte, cbn_i, r1, k1, x1, KM, r2]
  · skip
    have t0 : (c = 0) = False := by rw [hx]; decide
    have t1 : (c = 1) = False := by rw [hx]; decide
    have t2 : (c = 2) = False := by rw [hx]; decide
    have t3 : (c = 3) = False := by rw [hx]; decide
    have t4 : (c = 4) = False := by rw [hx]; decide
    have t5 : (c = 5) = True := by rw [hx]; decide
    obtain ⟨a, M1, M2, low, r1, r2, r3⟩ := p_lose h (by omega) y
    have k1 : mK M1 = mK M := KK low.1
    have x1 : mI M1 b = xs := (low.2 b hbS).trans xb
    refine ⟨M2, ?_, r3.up (by omega)⟩
    simp only [t176_26, t176_27, t176_28, t176_29, t176_31, t176_32, t176_307, t176_308, t176_309, t176_310, t176_311, t176_312, t176_313, t176_316, t176_317, t176_318, t176_319, t176_320, t176_321, t176_322, t176_325, t176_328, t176_329, t0, t1, t2, t3, t4, t5, kb, xb, i0, i1, i2, c0, c1, c2, n1, a2, hy, hz, hc, K0, f51, false_or, or_true, and_self, ↓reduceIte, cbn_i, r1, k1, x1, KM, r2]
  · skip
    have t0 : (c = 0) = False := by rw [hx]; decide
    have t1 : (c = 1) = False := by rw [hx]; decide
    have t2 : (c = 2) = False := by rw [hx]; decide
    have t3 : (c = 3) = False := by rw [hx]; decide
    have t4 : (c = 4) = False := by rw [hx]; decide
    have t5 : (c = 5) = False := by rw [hx]; decide
    have t6 : (c = 6) = True := by rw [hx]; decide
    obtain ⟨a, M1, M2, low, r1, r2, r3⟩ := p_find h (by omega) y
    have k1 : mK M1 = mK M := KK low.1
    have x1 : mI M1 b = xs := (low.2 b hbS).trans xb
    refine ⟨M2, ?_, r3.up (by omega)⟩
    simp only [t176_26, t176_27, t176_28, t176_29, t176_31, t176_32, t176_330, t176_331, t176_332, t176_333, t176_334, t176_335, t176_336, t176_339, t176_340, t176_341, t176_342, t176_343, t176_344, t176_345, t176_348, t176_351, t176_352, t0, t1, t2, t3, t4, t5, t6, kb, xb, i0, i1, i2, c0, c1, c2, n1, a2, hy, hz, hc, K0, f51, false_or, or_true, and_self, ↓reduceIte, cbn_i, r1, k1, x1, KM, r2]
  · skip
    have t0 : (c = 0) = False := by rw [hx]; decide
    have t1 : (c = 1) = False := by rw [hx]; decide
    have t2 : (c = 2) = False := by rw [hx]; decide
    have t3 : (c = 3) = False := by rw [hx]; decide
    have t4 : (c = 4) = False := by rw [hx]; decide
    have t5 : (c = 5) = False := by rw [hx]; decide
    have t6 : (c = 6) = False := by rw [hx]; decide
    have t7 : (c = 7) = True := by rw [hx]; decide
    obtain ⟨a, M1, M2, low, r1, r2, r3⟩ := p_beginAnew h
    have k1 : mK M1 = mK M := KK low.1
    have x1 : mI M1 b = xs := (low.2 b hbS).trans xb
    refine ⟨M2, ?_, r3.up (by omega)⟩
    simp only [t176_26, t176_27, t176_28, t176_29, t176_31, t176_32, t176_353, t176_354, t176_357, t176_358, t176_361, t176_364, t176_365, t0, t1, t2, t3, t4, t5, t6, t7, kb, xb, i0, i1, i2, c0, c1, c2, n1, a2, hy, hz, hc, K0, f51, false_or, or_true, and_self, ↓reduceIte, cbn_i, r1, k1, x1, KM, r2]
  · skip
    have t0 : (c = 0) = False := by rw [hx]; decide
    have t1 : (c = 1) = False := by rw [hx]; decide
    have t2 : (c = 2) = False := by rw [hx]; decide
    have t3 : (c = 3) = False := by rw [hx]; decide
    have t4 : (c = 4) = False := by rw [hx]; decide
    have t5 : (c = 5) = False := by rw [hx]; decide
    have t6 : (c = 6) = False := by rw [hx]; decide
    have t7 : (c = 7) = False := by rw [hx]; decide
    have t8 : (c = 8) = True := by rw [hx]; decide
    obtain ⟨a, M1, M2, low, r1, r2, r3⟩ := p_round h (by omega)
    have k1 : mK M1 = mK M := KK low.1
    have x1 : mI M1 b = xs := (low.2 b hbS).trans xb
    refine ⟨M2, ?_, r3.up (by omega)⟩
    simp only [t176_26, t176_27, t176_28, t176_29, t176_31, t176_32, t176_366, t176_367, t176_370, t176_371, t176_374, t176_377, t176_378, t0, t1, t2, t3, t4, t5, t6, t7, t8, kb, xb, i0, i1, i2, c0, c1, c2, n1, a2, hy, hz, hc, K0, f51, false_or, or_true, and_self, ↓reduceIte, cbn_i, r1, k1, x1, KM, r2]
  · skip
    have t0 : (c = 0) = False := by rw [hx]; decide
    have t1 : (c = 1) = False := by rw [hx]; decide
    have t2 : (c = 2) = False := by rw [hx]; decide
    have t3 : (c = 3) = False := by rw [hx]; decide
    have t4 : (c = 4) = False := by rw [hx]; decide
    have t5 : (c = 5) = False := by rw [hx]; decide
    have t6 : (c = 6) = False := by rw [hx]; decide
    have t7 : (c = 7) = False := by rw [hx]; decide
    have t8 : (c = 8) = False := by rw [hx]; decide
    have t9 : (c = 9) = True := by rw [hx]; decide
    obtain ⟨a, M1, M2, low, r1, r2, r3⟩ := p_replay h (by omega)
    have k1 : mK M1 = mK M := KK low.1
    have x1 : mI M1 b = xs := (low.2 b hbS).trans xb
    refine ⟨M2, ?_, r3.up (by omega)⟩
    simp only [t176_26, t176_27, t176_28, t176_29, t176_31, t176_32, t176_379, t176_380, t176_383, t176_384, t176_387, t176_390, t176_391, t0, t1, t2, t3, t4, t5, t6, t7, t8, t9, kb, xb, i0, i1, i2, c0, c1, c2, n1, a2, hy, hz, hc, K0, f51, false_or, or_true, and_self, ↓reduceIte, cbn_i, r1, k1, x1, KM, r2]
  · skip
    have t0 : (c = 0) = False := by rw [hx]; decide
    have t1 : (c = 1) = False := by rw [hx]; decide
    have t2 : (c = 2) = False := by rw [hx]; decide
    have t3 : (c = 3) = False := by rw [hx]; decide
    have t4 : (c = 4) = False := by rw [hx]; decide
    have t5 : (c = 5) = False := by rw [hx]; decide
    have t6 : (c = 6) = False := by rw [hx]; decide
    have t7 : (c = 7) = False := by rw [hx]; decide
    have t8 : (c = 8) = False := by rw [hx]; decide
    have t9 : (c = 9) = False := by rw [hx]; decide
    have t10 : (c = 10) = True := by rw [hx]; decide
    obtain ⟨a, M1, M2, low, r1, r2, r3⟩ := p_ofEntry h y z
    have k1 : mK M1 = mK M := KK low.1
    have x1 : mI M1 b = xs := (low.2 b hbS).trans xb
    refine ⟨M2, ?_, r3.up (by omega)⟩
    simp only [t176_26, t176_27, t176_28, t176_29, t176_31, t176_32, t176_392, t176_393, t176_394, t176_395, t176_396, t176_397, t176_398, t176_399, t176_400, t176_401, t176_402, t176_403, t176_406, t176_407, t176_408, t176_409, t176_410, t176_411, t176_412, t176_413, t176_414, t176_415, t176_416, t176_417, t176_420, t176_423, t176_424, t0, t1, t2, t3, t4, t5, t6, t7, t8, t9, t10, kb, xb, i0, i1, i2, c0, c1, c2, n1, a2, hy, hz, hc, K0, f51, false_or, or_true, and_self, ↓reduceIte, cbn_i, r1, k1, x1, KM, r2]
  · skip
    have t0 : (c = 0) = False := by rw [hx]; decide
    have t1 : (c = 1) = False := by rw [hx]; decide
    have t2 : (c = 2) = False := by rw [hx]; decide
    have t3 : (c = 3) = False := by rw [hx]; decide
    have t4 : (c = 4) = False := by rw [hx]; decide
    have t5 : (c = 5) = False := by rw [hx]; decide
    have t6 : (c = 6) = False := by rw [hx]; decide
    have t7 : (c = 7) = False := by rw [hx]; decide
    have t8 : (c = 8) = False := by rw [hx]; decide
    have t9 : (c = 9) = False := by rw [hx]; decide
    have t10 : (c = 10) = False := by rw [hx]; decide
    have t11 : (c = 11) = True := by rw [hx]; decide
    obtain ⟨a, M1, M2, low, r1, r2, r3⟩ := p_dependsOn h y
    have k1 : mK M1 = mK M := KK low.1
    have x1 : mI M1 b = xs := (low.2 b hbS).trans xb
    refine ⟨M2, ?_, r3.up (by omega)⟩
    simp only [t176_26, t176_27, t176_28, t176_29, t176_31, t176_32, t176_425, t176_426, t176_427, t176_428, t176_429, t176_430, t176_431, t176_434, t176_435, t176_436, t176_437, t176_438, t176_439, t176_440, t176_443, t176_444, t176_447, t176_448, t0, t1, t2, t3, t4, t5, t6, t7, t8, t9, t10, t11, kb, xb, i0, i1, i2, c0, c1, c2, n1, a2, hy, hz, hc, K0, f51, false_or, or_true, and_self, ↓reduceIte, cbn_i, r1, k1, x1, KM, r2, lg_cmp_eq]
  · skip
    have t0 : (c = 0) = False := by rw [hx]; decide
    have t1 : (c = 1) = False := by rw [hx]; decide
    have t2 : (c = 2) = False := by rw [hx]; decide
    have t3 : (c = 3) = False := by rw [hx]; decide
    have t4 : (c = 4) = False := by rw [hx]; decide
    have t5 : (c = 5) = False := by rw [hx]; decide
    have t6 : (c = 6) = False := by rw [hx]; decide
    have t7 : (c = 7) = False := by rw [hx]; decide
    have t8 : (c = 8) = False := by rw [hx]; decide
    have t9 : (c = 9) = False := by rw [hx]; decide
    have t10 : (c = 10) = False := by rw [hx]; decide
    have t11 : (c = 11) = False := by rw [hx]; decide
    have t12 : (c = 12) = True := by rw [hx]; decide
    obtain ⟨a, M1, M2, low, r1, r2, r3⟩ := p_ofFile h y z
    have k1 : mK M1 = mK M := KK low.1
    have x1 : mI M1 b = xs := (low.2 b hbS).trans xb
    refine ⟨M2, ?_, r3.up (by omega)⟩
    simp only [t176_26, t176_27, t176_28, t176_29, t176_31, t176_32, t176_449, t176_450, t176_451, t176_452, t176_453, t176_454, t176_455, t176_456, t176_457, t176_458, t176_459, t176_460, t176_463, t176_464, t176_465, t176_466, t176_467, t176_468, t176_469, t176_470, t176_471, t176_472, t176_473, t176_474, t176_477, t176_480, t176_481, t0, t1, t2, t3, t4, t5, t6, t7, t8, t9, t10, t11, t12, kb, xb, i0, i1, i2, c0, c1, c2, n1, a2, hy, hz, hc, K0, f51, false_or, or_true, and_self, ↓reduceIte, cbn_i, r1, k1, x1, KM, r2]
  · skip
    have t0 : (c = 0) = False := by rw [hx]; decide
    have t1 : (c = 1) = False := by rw [hx]; decide
    have t2 : (c = 2) = False := by rw [hx]; decide
    have t3 : (c = 3) = False := by rw [hx]; decide
    have t4 : (c = 4) = False := by rw [hx]; decide
    have t5 : (c = 5) = False := by rw [hx]; decide
    have t6 : (c = 6) = False := by rw [hx]; decide
    have t7 : (c = 7) = False := by rw [hx]; decide
    have t8 : (c = 8) = False := by rw [hx]; decide
    have t9 : (c = 9) = False := by rw [hx]; decide
    have t10 : (c = 10) = False := by rw [hx]; decide
    have t11 : (c = 11) = False := by rw [hx]; decide
    have t12 : (c = 12) = False := by rw [hx]; decide
    have t13 : (c = 13) = True := by rw [hx]; decide
    obtain ⟨a, M1, M2, low, r1, r2, r3⟩ := p_count h (by omega) y
    have k1 : mK M1 = mK M := KK low.1
    have x1 : mI M1 b = xs := (low.2 b hbS).trans xb
    refine ⟨M2, ?_, r3.up (by omega)⟩
    simp only [t176_26, t176_27, t176_28, t176_29, t176_31, t176_32, t176_482, t176_483, t176_484, t176_485, t176_486, t176_487, t176_488, t176_491, t176_492, t176_493, t176_494, t176_495, t176_496, t176_497, t176_500, t176_503, t176_504, t0, t1, t2, t3, t4, t5, t6, t7, t8, t9, t10, t11, t12, t13, kb, xb, i0, i1, i2, c0, c1, c2, n1, a2, hy, hz, hc, K0, f51, false_or, or_true, and_self, ↓reduceIte, cbn_i, r1, k1, x1, KM, r2]
  · skip
    have t0 : (c = 0) = False := by rw [hx]; decide
    have t1 : (c = 1) = False := by rw [hx]; decide
    have t2 : (c = 2) = False := by rw [hx]; decide
    have t3 : (c = 3) = False := by rw [hx]; decide
    have t4 : (c = 4) = False := by rw [hx]; decide
    have t5 : (c = 5) = False := by rw [hx]; decide
    have t6 : (c = 6) = False := by rw [hx]; decide
    have t7 : (c = 7) = False := by rw [hx]; decide
    have t8 : (c = 8) = False := by rw [hx]; decide
    have t9 : (c = 9) = False := by rw [hx]; decide
    have t10 : (c = 10) = False := by rw [hx]; decide
    have t11 : (c = 11) = False := by rw [hx]; decide
    have t12 : (c = 12) = False := by rw [hx]; decide
    have t13 : (c = 13) = False := by rw [hx]; decide
    have t14 : (c = 14) = True := by rw [hx]; decide
    obtain ⟨a, M1, M2, low, r1, r2, r3⟩ := p_set h y
    have k1 : mK M1 = mK M := KK low.1
    have x1 : mI M1 b = xs := (low.2 b hbS).trans xb
    refine ⟨M2, ?_, r3.up (by omega)⟩
    simp only [t176_26, t176_27, t176_28, t176_29, t176_31, t176_32, t176_505, t176_506, t176_507, t176_508, t176_509, t176_510, t176_511, t176_514, t176_515, t176_516, t176_517, t176_518, t176_519, t176_520, t176_523, t176_524, t176_527, t176_528, t0, t1, t2, t3, t4, t5, t6, t7, t8, t9, t10, t11, t12, t13, t14, kb, xb, i0, i1, i2, c0, c1, c2, n1, a2, hy, hz, hc, K0, f51, false_or, or_true, and_self, ↓reduceIte, cbn_i, r1, k1, x1, KM, r2, lg_cmp_eq]
  · skip
    have t0 : (c = 0) = False := by rw [hx]; decide
    have t1 : (c = 1) = False := by rw [hx]; decide
    have t2 : (c = 2) = False := by rw [hx]; decide
    have t3 : (c = 3) = False := by rw [hx]; decide
    have t4 : (c = 4) = False := by rw [hx]; decide
    have t5 : (c = 5) = False := by rw [hx]; decide
    have t6 : (c = 6) = False := by rw [hx]; decide
    have t7 : (c = 7) = False := by rw [hx]; decide
    have t8 : (c = 8) = False := by rw [hx]; decide
    have t9 : (c = 9) = False := by rw [hx]; decide
    have t10 : (c = 10) = False := by rw [hx]; decide
    have t11 : (c = 11) = False := by rw [hx]; decide
    have t12 : (c = 12) = False := by rw [hx]; decide
    have t13 : (c = 13) = False := by rw [hx]; decide
    have t14 : (c = 14) = False := by rw [hx]; decide
    have t15 : (c = 15) = True := by rw [hx]; decide
    obtain ⟨a, M1, M2, low, r1, r2, r3⟩ := p_depth h y
    have k1 : mK M1 = mK M := KK low.1
    have x1 : mI M1 b = xs := (low.2 b hbS).trans xb
    refine ⟨M2, ?_, r3.up (by omega)⟩
    simp only [t176_26, t176_27, t176_28, t176_29, t176_31, t176_32, t176_529, t176_530, t176_531, t176_532, t176_533, t176_534, t176_535, t176_538, t176_539, t176_540, t176_541, t176_542, t176_543, t176_544, t176_547, t176_550, t176_551, t0, t1, t2, t3, t4, t5, t6, t7, t8, t9, t10, t11, t12, t13, t14, t15, kb, xb, i0, i1, i2, c0, c1, c2, n1, a2, hy, hz, hc, K0, f51, false_or, or_true, and_self, ↓reduceIte, cbn_i, r1, k1, x1, KM, r2]
  · skip
    have t0 : (c = 0) = False := by rw [hx]; decide
    have t1 : (c = 1) = False := by rw [hx]; decide
    have t2 : (c = 2) = False := by rw [hx]; decide
    have t3 : (c = 3) = False := by rw [hx]; decide
    have t4 : (c = 4) = False := by rw [hx]; decide
    have t5 : (c = 5) = False := by rw [hx]; decide
    have t6 : (c = 6) = False := by rw [hx]; decide
    have t7 : (c = 7) = False := by rw [hx]; decide
    have t8 : (c = 8) = False := by rw [hx]; decide
    have t9 : (c = 9) = False := by rw [hx]; decide
    have t10 : (c = 10) = False := by rw [hx]; decide
    have t11 : (c = 11) = False := by rw [hx]; decide
    have t12 : (c = 12) = False := by rw [hx]; decide
    have t13 : (c = 13) = False := by rw [hx]; decide
    have t14 : (c = 14) = False := by rw [hx]; decide
    have t15 : (c = 15) = False := by rw [hx]; decide
    have t16 : (c = 16) = True := by rw [hx]; decide
    obtain ⟨a, M1, M2, low, r1, r2, r3⟩ := p_wants h y
    have k1 : mK M1 = mK M := KK low.1
    have x1 : mI M1 b = xs := (low.2 b hbS).trans xb
    refine ⟨M2, ?_, r3.up (by omega)⟩
    simp only [t176_26, t176_27, t176_28, t176_29, t176_31, t176_32, t176_552, t176_553, t176_554, t176_555, t176_556, t176_557, t176_558, t176_561, t176_562, t176_563, t176_564, t176_565, t176_566, t176_567, t176_570, t176_571, t176_574, t176_575, t0, t1, t2, t3, t4, t5, t6, t7, t8, t9, t10, t11, t12, t13, t14, t15, t16, kb, xb, i0, i1, i2, c0, c1, c2, n1, a2, hy, hz, hc, K0, f51, false_or, or_true, and_self, ↓reduceIte, cbn_i, r1, k1, x1, KM, r2, lg_cmp_eq]
  · skip
    have t0 : (c = 0) = False := by rw [hx]; decide
    have t1 : (c = 1) = False := by rw [hx]; decide
    have t2 : (c = 2) = False := by rw [hx]; decide
    have t3 : (c = 3) = False := by rw [hx]; decide
    have t4 : (c = 4) = False := by rw [hx]; decide
    have t5 : (c = 5) = False := by rw [hx]; decide
    have t6 : (c = 6) = False := by rw [hx]; decide
    have t7 : (c = 7) = False := by rw [hx]; decide
    have t8 : (c = 8) = False := by rw [hx]; decide
    have t9 : (c = 9) = False := by rw [hx]; decide
    have t10 : (c = 10) = False := by rw [hx]; decide
    have t11 : (c = 11) = False := by rw [hx]; decide
    have t12 : (c = 12) = False := by rw [hx]; decide
    have t13 : (c = 13) = False := by rw [hx]; decide
    have t14 : (c = 14) = False := by rw [hx]; decide
    have t15 : (c = 15) = False := by rw [hx]; decide
    have t16 : (c = 16) = False := by rw [hx]; decide
    have t17 : (c = 17) = True := by rw [hx]; decide
    obtain ⟨a, M1, M2, low, r1, r2, r3⟩ := p_worst h y
    have k1 : mK M1 = mK M := KK low.1
    have x1 : mI M1 b = xs := (low.2 b hbS).trans xb
    refine ⟨M2, ?_, r3.up (by omega)⟩
    simp only [t176_26, t176_27, t176_28, t176_29, t176_31, t176_32, t176_576, t176_577, t176_578, t176_579, t176_580, t176_581, t176_582, t176_585, t176_586, t176_587, t176_588, t176_589, t176_590, t176_591, t176_594, t176_597, t176_598, t0, t1, t2, t3, t4, t5, t6, t7, t8, t9, t10, t11, t12, t13, t14, t15, t16, t17, kb, xb, i0, i1, i2, c0, c1, c2, n1, a2, hy, hz, hc, K0, f51, false_or, or_true, and_self, ↓reduceIte, cbn_i, r1, k1, x1, KM, r2]
  · skip
    have t0 : (c = 0) = False := by rw [hx]; decide
    have t1 : (c = 1) = False := by rw [hx]; decide
    have t2 : (c = 2) = False := by rw [hx]; decide
    have t3 : (c = 3) = False := by rw [hx]; decide
    have t4 : (c = 4) = False := by rw [hx]; decide
    have t5 : (c = 5) = False := by rw [hx]; decide
    have t6 : (c = 6) = False := by rw [hx]; decide
    have t7 : (c = 7) = False := by rw [hx]; decide
    have t8 : (c = 8) = False := by rw [hx]; decide
    have t9 : (c = 9) = False := by rw [hx]; decide
    have t10 : (c = 10) = False := by rw [hx]; decide
    have t11 : (c = 11) = False := by rw [hx]; decide
    have t12 : (c = 12) = False := by rw [hx]; decide
    have t13 : (c = 13) = False := by rw [hx]; decide
    have t14 : (c = 14) = False := by rw [hx]; decide
    have t15 : (c = 15) = False := by rw [hx]; decide
    have t16 : (c = 16) = False := by rw [hx]; decide
    have t17 : (c = 17) = False := by rw [hx]; decide
    have t18 : (c = 18) = True := by rw [hx]; decide
    obtain ⟨a, M1, M2, low, r1, r2, r3⟩ := p_unlike h (by omega)
    have k1 : mK M1 = mK M := KK low.1
    have x1 : mI M1 b = xs := (low.2 b hbS).trans xb
    refine ⟨M2, ?_, r3.up (by omega)⟩
    simp only [t176_26, t176_27, t176_28, t176_29, t176_31, t176_32, t176_599, t176_600, t176_603, t176_604, t176_607, t176_610, t176_611, t0, t1, t2, t3, t4, t5, t6, t7, t8, t9, t10, t11, t12, t13, t14, t15, t16, t17, t18, kb, xb, i0, i1, i2, c0, c1, c2, n1, a2, hy, hz, hc, K0, f51, false_or, or_true, and_self, ↓reduceIte, cbn_i, r1, k1, x1, KM, r2]
  · skip
    have t0 : (c = 0) = False := by rw [hx]; decide
    have t1 : (c = 1) = False := by rw [hx]; decide
    have t2 : (c = 2) = False := by rw [hx]; decide
    have t3 : (c = 3) = False := by rw [hx]; decide
    have t4 : (c = 4) = False := by rw [hx]; decide
    have t5 : (c = 5) = False := by rw [hx]; decide
    have t6 : (c = 6) = False := by rw [hx]; decide
    have t7 : (c = 7) = False := by rw [hx]; decide
    have t8 : (c = 8) = False := by rw [hx]; decide
    have t9 : (c = 9) = False := by rw [hx]; decide
    have t10 : (c = 10) = False := by rw [hx]; decide
    have t11 : (c = 11) = False := by rw [hx]; decide
    have t12 : (c = 12) = False := by rw [hx]; decide
    have t13 : (c = 13) = False := by rw [hx]; decide
    have t14 : (c = 14) = False := by rw [hx]; decide
    have t15 : (c = 15) = False := by rw [hx]; decide
    have t16 : (c = 16) = False := by rw [hx]; decide
    have t17 : (c = 17) = False := by rw [hx]; decide
    have t18 : (c = 18) = False := by rw [hx]; decide
    have t19 : (c = 19) = True := by rw [hx]; decide
    obtain ⟨a, M1, M2, low, r1, r2, r3⟩ := p_put h ((y.toInt64 <<< ((32 : Int32).toInt64 &&& 63)) ||| (z.toInt64 &&& 4294967295))
    have k1 : mK M1 = mK M := KK low.1
    have x1 : mI M1 b = xs := (low.2 b hbS).trans xb
    refine ⟨M2, ?_, r3.up (by omega)⟩
    simp only [t176_26, t176_27, t176_28, t176_29, t176_31, t176_32, t176_612, t176_613, t176_614, t176_615, t176_616, t176_617, t176_618, t176_619, t176_621, t176_622, t176_623, t176_624, t176_625, t176_626, t176_627, t176_628, t176_631, t176_632, t176_633, t176_636, t176_637, t176_638, t176_639, t176_640, t176_641, t176_642, t176_643, t176_645, t176_646, t176_647, t176_648, t176_649, t176_650, t176_651, t176_652, t176_655, t176_656, t176_657, t176_660, t176_663, t176_664, t0, t1, t2, t3, t4, t5, t6, t7, t8, t9, t10, t11, t12, t13, t14, t15, t16, t17, t18, t19, kb, xb, i0, i1, i2, c0, c1, c2, n1, a2, hy, hz, hc, K0, f51, false_or, or_true, and_self, ↓reduceIte, cbn_i, r1, k1, x1, KM, r2]
  · skip
    have t0 : (c = 0) = False := by rw [hx]; decide
    have t1 : (c = 1) = False := by rw [hx]; decide
    have t2 : (c = 2) = False := by rw [hx]; decide
    have t3 : (c = 3) = False := by rw [hx]; decide
    have t4 : (c = 4) = False := by rw [hx]; decide
    have t5 : (c = 5) = False := by rw [hx]; decide
    have t6 : (c = 6) = False := by rw [hx]; decide
    have t7 : (c = 7) = False := by rw [hx]; decide
    have t8 : (c = 8) = False := by rw [hx]; decide
    have t9 : (c = 9) = False := by rw [hx]; decide
    have t10 : (c = 10) = False := by rw [hx]; decide
    have t11 : (c = 11) = False := by rw [hx]; decide
    have t12 : (c = 12) = False := by rw [hx]; decide
    have t13 : (c = 13) = False := by rw [hx]; decide
    have t14 : (c = 14) = False := by rw [hx]; decide
    have t15 : (c = 15) = False := by rw [hx]; decide
    have t16 : (c = 16) = False := by rw [hx]; decide
    have t17 : (c = 17) = False := by rw [hx]; decide
    have t18 : (c = 18) = False := by rw [hx]; decide
    have t19 : (c = 19) = False := by rw [hx]; decide
    have t20 : (c = 20) = True := by rw [hx]; decide
    obtain ⟨a, M1, M2, low, r1, r2, r3⟩ := p_wipe h
    have k1 : mK M1 = mK M := KK low.1
    have x1 : mI M1 b = xs := (low.2 b hbS).trans xb
    refine ⟨M2, ?_, r3.up (by omega)⟩
    simp only [t176_26, t176_27, t176_28, t176_29, t176_31, t176_32, t176_665, t176_666, t176_669, t176_670, t176_673, t176_676, t176_677, t0, t1, t2, t3, t4, t5, t6, t7, t8, t9, t10, t11, t12, t13, t14, t15, t16, t17, t18, t19, t20, kb, xb, i0, i1, i2, c0, c1, c2, n1, a2, hy, hz, hc, K0, f51, false_or, or_true, and_self, ↓reduceIte, cbn_i, r1, k1, x1, KM, r2]
  · skip
    have t0 : (c = 0) = False := by rw [hx]; decide
    have t1 : (c = 1) = False := by rw [hx]; decide
    have t2 : (c = 2) = False := by rw [hx]; decide
    have t3 : (c = 3) = False := by rw [hx]; decide
    have t4 : (c = 4) = False := by rw [hx]; decide
    have t5 : (c = 5) = False := by rw [hx]; decide
    have t6 : (c = 6) = False := by rw [hx]; decide
    have t7 : (c = 7) = False := by rw [hx]; decide
    have t8 : (c = 8) = False := by rw [hx]; decide
    have t9 : (c = 9) = False := by rw [hx]; decide
    have t10 : (c = 10) = False := by rw [hx]; decide
    have t11 : (c = 11) = False := by rw [hx]; decide
    have t12 : (c = 12) = False := by rw [hx]; decide
    have t13 : (c = 13) = False := by rw [hx]; decide
    have t14 : (c = 14) = False := by rw [hx]; decide
    have t15 : (c = 15) = False := by rw [hx]; decide
    have t16 : (c = 16) = False := by rw [hx]; decide
    have t17 : (c = 17) = False := by rw [hx]; decide
    have t18 : (c = 18) = False := by rw [hx]; decide
    have t19 : (c = 19) = False := by rw [hx]; decide
    have t20 : (c = 20) = False := by rw [hx]; decide
    have t21 : (c = 21) = True := by rw [hx]; decide
    obtain ⟨a, M1, M2, low, r1, r2, r3⟩ := p_fault h
    have k1 : mK M1 = mK M := KK low.1
    have x1 : mI M1 b = xs := (low.2 b hbS).trans xb
    refine ⟨M2, ?_, r3.up (by omega)⟩
    simp only [t176_26, t176_27, t176_28, t176_29, t176_31, t176_32, t176_678, t176_679, t176_682, t176_683, t176_686, t176_689, t176_690, t0, t1, t2, t3, t4, t5, t6, t7, t8, t9, t10, t11, t12, t13, t14, t15, t16, t17, t18, t19, t20, t21, kb, xb, i0, i1, i2, c0, c1, c2, n1, a2, hy, hz, hc, K0, f51, false_or, or_true, and_self, ↓reduceIte, cbn_i, r1, k1, x1, KM, r2]
  · skip
    have t0 : (c = 0) = False := by rw [hx]; decide
    have t1 : (c = 1) = False := by rw [hx]; decide
    have t2 : (c = 2) = False := by rw [hx]; decide
    have t3 : (c = 3) = False := by rw [hx]; decide
    have t4 : (c = 4) = False := by rw [hx]; decide
    have t5 : (c = 5) = False := by rw [hx]; decide
    have t6 : (c = 6) = False := by rw [hx]; decide
    have t7 : (c = 7) = False := by rw [hx]; decide
    have t8 : (c = 8) = False := by rw [hx]; decide
    have t9 : (c = 9) = False := by rw [hx]; decide
    have t10 : (c = 10) = False := by rw [hx]; decide
    have t11 : (c = 11) = False := by rw [hx]; decide
    have t12 : (c = 12) = False := by rw [hx]; decide
    have t13 : (c = 13) = False := by rw [hx]; decide
    have t14 : (c = 14) = False := by rw [hx]; decide
    have t15 : (c = 15) = False := by rw [hx]; decide
    have t16 : (c = 16) = False := by rw [hx]; decide
    have t17 : (c = 17) = False := by rw [hx]; decide
    have t18 : (c = 18) = False := by rw [hx]; decide
    have t19 : (c = 19) = False := by rw [hx]; decide
    have t20 : (c = 20) = False := by rw [hx]; decide
    have t21 : (c = 21) = False := by rw [hx]; decide
    have t22 : (c = 22) = True := by rw [hx]; decide
    obtain ⟨a, M1, M2, low, r1, r2, r3⟩ := p_carryOut h (by omega)
    have k1 : mK M1 = mK M := KK low.1
    have x1 : mI M1 b = xs := (low.2 b hbS).trans xb
    refine ⟨M2, ?_, r3.up (by omega)⟩
    simp only [t176_26, t176_27, t176_28, t176_29, t176_31, t176_32, t176_691, t176_692, t176_695, t176_696, t176_699, t176_702, t176_703, t0, t1, t2, t3, t4, t5, t6, t7, t8, t9, t10, t11, t12, t13, t14, t15, t16, t17, t18, t19, t20, t21, t22, kb, xb, i0, i1, i2, c0, c1, c2, n1, a2, hy, hz, hc, K0, f51, false_or, or_true, and_self, ↓reduceIte, cbn_i, r1, k1, x1, KM, r2]
  · skip
    have t0 : (c = 0) = False := by rw [hx]; decide
    have t1 : (c = 1) = False := by rw [hx]; decide
    have t2 : (c = 2) = False := by rw [hx]; decide
    have t3 : (c = 3) = False := by rw [hx]; decide
    have t4 : (c = 4) = False := by rw [hx]; decide
    have t5 : (c = 5) = False := by rw [hx]; decide
    have t6 : (c = 6) = False := by rw [hx]; decide
    have t7 : (c = 7) = False := by rw [hx]; decide
    have t8 : (c = 8) = False := by rw [hx]; decide
    have t9 : (c = 9) = False := by rw [hx]; decide
    have t10 : (c = 10) = False := by rw [hx]; decide
    have t11 : (c = 11) = False := by rw [hx]; decide
    have t12 : (c = 12) = False := by rw [hx]; decide
    have t13 : (c = 13) = False := by rw [hx]; decide
    have t14 : (c = 14) = False := by rw [hx]; decide
    have t15 : (c = 15) = False := by rw [hx]; decide
    have t16 : (c = 16) = False := by rw [hx]; decide
    have t17 : (c = 17) = False := by rw [hx]; decide
    have t18 : (c = 18) = False := by rw [hx]; decide
    have t19 : (c = 19) = False := by rw [hx]; decide
    have t20 : (c = 20) = False := by rw [hx]; decide
    have t21 : (c = 21) = False := by rw [hx]; decide
    have t22 : (c = 22) = False := by rw [hx]; decide
    have t23 : (c = 23) = True := by rw [hx]; decide
    obtain ⟨a, M1, M2, low, r1, r2, r3⟩ := p_undo h
    have k1 : mK M1 = mK M := KK low.1
    have x1 : mI M1 b = xs := (low.2 b hbS).trans xb
    refine ⟨M2, ?_, r3.up (by omega)⟩
    simp only [t176_26, t176_27, t176_28, t176_29, t176_31, t176_32, t176_704, t176_705, t176_708, t176_709, t176_712, t176_715, t176_716, t0, t1, t2, t3, t4, t5, t6, t7, t8, t9, t10, t11, t12, t13, t14, t15, t16, t17, t18, t19, t20, t21, t22, t23, kb, xb, i0, i1, i2, c0, c1, c2, n1, a2, hy, hz, hc, K0, f51, false_or, or_true, and_self, ↓reduceIte, cbn_i, r1, k1, x1, KM, r2]
  · skip
    have t0 : (c = 0) = False := by rw [hx]; decide
    have t1 : (c = 1) = False := by rw [hx]; decide
    have t2 : (c = 2) = False := by rw [hx]; decide
    have t3 : (c = 3) = False := by rw [hx]; decide
    have t4 : (c = 4) = False := by rw [hx]; decide
    have t5 : (c = 5) = False := by rw [hx]; decide
    have t6 : (c = 6) = False := by rw [hx]; decide
    have t7 : (c = 7) = False := by rw [hx]; decide
    have t8 : (c = 8) = False := by rw [hx]; decide
    have t9 : (c = 9) = False := by rw [hx]; decide
    have t10 : (c = 10) = False := by rw [hx]; decide
    have t11 : (c = 11) = False := by rw [hx]; decide
    have t12 : (c = 12) = False := by rw [hx]; decide
    have t13 : (c = 13) = False := by rw [hx]; decide
    have t14 : (c = 14) = False := by rw [hx]; decide
    have t15 : (c = 15) = False := by rw [hx]; decide
    have t16 : (c = 16) = False := by rw [hx]; decide
    have t17 : (c = 17) = False := by rw [hx]; decide
    have t18 : (c = 18) = False := by rw [hx]; decide
    have t19 : (c = 19) = False := by rw [hx]; decide
    have t20 : (c = 20) = False := by rw [hx]; decide
    have t21 : (c = 21) = False := by rw [hx]; decide
    have t22 : (c = 22) = False := by rw [hx]; decide
    have t23 : (c = 23) = False := by rw [hx]; decide
    have t24 : (c = 24) = True := by rw [hx]; decide
    obtain ⟨a, M1, M2, low, r1, r2, r3⟩ := p_save h y
    have k1 : mK M1 = mK M := KK low.1
    have x1 : mI M1 b = xs := (low.2 b hbS).trans xb
    refine ⟨M2, ?_, r3.up (by omega)⟩
    simp only [t176_26, t176_27, t176_28, t176_29, t176_31, t176_32, t176_717, t176_718, t176_719, t176_720, t176_721, t176_722, t176_723, t176_726, t176_727, t176_728, t176_729, t176_730, t176_731, t176_732, t176_735, t176_738, t176_739, t0, t1, t2, t3, t4, t5, t6, t7, t8, t9, t10, t11, t12, t13, t14, t15, t16, t17, t18, t19, t20, t21, t22, t23, t24, kb, xb, i0, i1, i2, c0, c1, c2, n1, a2, hy, hz, hc, K0, f51, false_or, or_true, and_self, ↓reduceIte, cbn_i, r1, k1, x1, KM, r2]
  · skip
    have t0 : (c = 0) = False := by rw [hx]; decide
    have t1 : (c = 1) = False := by rw [hx]; decide
    have t2 : (c = 2) = False := by rw [hx]; decide
    have t3 : (c = 3) = False := by rw [hx]; decide
    have t4 : (c = 4) = False := by rw [hx]; decide
    have t5 : (c = 5) = False := by rw [hx]; decide
    have t6 : (c = 6) = False := by rw [hx]; decide
    have t7 : (c = 7) = False := by rw [hx]; decide
    have t8 : (c = 8) = False := by rw [hx]; decide
    have t9 : (c = 9) = False := by rw [hx]; decide
    have t10 : (c = 10) = False := by rw [hx]; decide
    have t11 : (c = 11) = False := by rw [hx]; decide
    have t12 : (c = 12) = False := by rw [hx]; decide
    have t13 : (c = 13) = False := by rw [hx]; decide
    have t14 : (c = 14) = False := by rw [hx]; decide
    have t15 : (c = 15) = False := by rw [hx]; decide
    have t16 : (c = 16) = False := by rw [hx]; decide
    have t17 : (c = 17) = False := by rw [hx]; decide
    have t18 : (c = 18) = False := by rw [hx]; decide
    have t19 : (c = 19) = False := by rw [hx]; decide
    have t20 : (c = 20) = False := by rw [hx]; decide
    have t21 : (c = 21) = False := by rw [hx]; decide
    have t22 : (c = 22) = False := by rw [hx]; decide
    have t23 : (c = 23) = False := by rw [hx]; decide
    have t24 : (c = 24) = False := by rw [hx]; decide
    have t25 : (c = 25) = True := by rw [hx]; decide
    obtain ⟨a, M1, M2, low, r1, r2, r3⟩ := p_restore h y
    have k1 : mK M1 = mK M := KK low.1
    have x1 : mI M1 b = xs := (low.2 b hbS).trans xb
    refine ⟨M2, ?_, r3.up (by omega)⟩
    simp only [t176_26, t176_27, t176_28, t176_29, t176_31, t176_32, t176_740, t176_741, t176_742, t176_743, t176_744, t176_745, t176_746, t176_749, t176_750, t176_751, t176_752, t176_753, t176_754, t176_755, t176_758, t176_761, t176_762, t0, t1, t2, t3, t4, t5, t6, t7, t8, t9, t10, t11, t12, t13, t14, t15, t16, t17, t18, t19, t20, t21, t22, t23, t24, t25, kb, xb, i0, i1, i2, c0, c1, c2, n1, a2, hy, hz, hc, K0, f51, false_or, or_true, and_self, ↓reduceIte, cbn_i, r1, k1, x1, KM, r2]
  · obtain ⟨t0, t1, t2, t3, t4, t5, t6, t7, t8, t9, t10, t11, t12, t13, t14, t15, t16, t17, t18, t19, t20, t21, t22, t23, t24, t25⟩ := hx
    refine ⟨M, ?_, h.up (by omega)⟩
    simp only [t176_26, t176_27, t176_28, t176_29, t176_31, t176_32, t0, t1, t2, t3, t4, t5, t6, t7, t8, t9, t10, t11, t12, t13, t14, t15, t16, t17, t18, t19, t20, t21, t22, t23, t24, t25, kb, xb, i0, i1, i2, c0, c1, c2, n1, a2, hy, hz, hc, K0, f51, false_or, or_true, and_self, ↓reduceIte, cbn_i]
theorem law_loop {b S L : Nat} {xs : Nat → Int32} (hL : L ≤ 1536) : ∀ (d j B : Nat) (M : SM), L < j + 3 * d + 3 → j ≤ 1536 → Rel M S b L xs B → B + 100 * d + 300 < 2147483648 → ∃ M2, rn 176 18 [some (.ref b), some (.ref S), some (.ref (S + 148)), some (.int (nI j))] [] M = some (some (.int 1), M2) ∧ mS M2 = S + 158 ∧ mU M2 ≤ 7302250 := by
  intro d
  have hl3 : ∀ L, L < 1537 → (nI L - 3).toInt = (L : Int) - 3 := by decide +kernel
  have cmp : ∀ j, j ≤ 1536 → (nI L - 3 < nI j) = (L < j + 3) := fun j hj => by
    rw [Int32.lt_iff_toInt_lt, hl3 L (by omega), nI_toInt (show j < 2 ^ 31 by omega)]
    exact propext (by omega)
  have f51 : ((5 : Nat) = 1) = False := by decide
  have ofn : Int32.ofNat L = nI L := rfl
  have exit : ∀ j M B, j ≤ 1536 → Rel M S b L xs B → L < j + 3 → ∃ M2, rn 176 18 [some (.ref b), some (.ref S), some (.ref (S + 148)), some (.int (nI j))] [] M = some (some (.int 1), M2) ∧ mS M2 = S + 158 ∧ mU M2 ≤ 7302250 := by
    intro j M B hj h hlt
    obtain ⟨hbS, kb, s1, s2⟩ := h.1.1.2.2.2.2.2.2.2.2.2
    refine ⟨M, ?_, s1, s2⟩
    rw [t176_18]
    simp only [t176_19, t176_20, t176_21, t176_22, t176_23, t176_769, t176_770, kb, f51, false_or, ofn, cmp j hj, hlt, or_true, ↓reduceIte]
  induction d with
  | zero => intro j B M h1 hj h hB; exact exit j M B hj h (by omega)
  | succ d ih =>
    intro j B M h1 hj h hB
    by_cases q : L < j + 3
    · exact exit j M B hj h q
    · obtain ⟨hbS, kb, s1, s2⟩ := h.1.1.2.2.2.2.2.2.2.2.2
      obtain ⟨M', r1, r2⟩ := law_step (j := j) h (by omega) (by omega) hL
      obtain ⟨M2, u1, u2⟩ := ih (j + 3) (B + 100) M' (by omega) (by omega) r2 (by omega)
      refine ⟨M2, ?_, u2⟩
      have a3 : nI j + 3 = nI (j + 3) := nI_add j 3
      rw [t176_18]
      simp only [t176_19, t176_20, t176_21, t176_22, t176_23, kb, f51, false_or, ofn, cmp j hj, q, or_true, ↓reduceIte]
      rw [r1]
      simp only [t176_763, t176_766, a3]
      exact u1
