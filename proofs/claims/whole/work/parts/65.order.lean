/-! an order read, on both sides -/
def rdF (g : Nat → Int32) (p : Nat) : Option (Nat × Nat) := if isF (g p - 97) = true then some ((g p - 97).toNatClampNeg, p + 1) else none
def twO (g : Nat → Int32) (f1 : Nat → Option (Nat × Nat)) (s : Int32) (f2 : Nat → Option (Nat × Nat)) (p : Nat) : Bool × Nat × Nat × Nat :=
  match f1 (p + 1) with
  | none => (false, p + 1, 0, 0)
  | some (a, q) => if g q = s then (match f2 (q + 1) with | none => (false, q + 1, 0, 0) | some (b, q2) => (true, q2, a, b)) else (false, q, 0, 0)
def onO (f : Nat → Option (Nat × Nat)) (p : Nat) : Bool × Nat × Nat × Nat :=
  match f (p + 1) with
  | none => (false, p + 1, 0, 0)
  | some (a, q) => (true, q, a, 0)
/-- an order at a place: whether it can stand there, the place behind what can, its two numbers -/
def rdO (g : Nat → Int32) (p : Nat) : Bool × Nat × Nat × Nat :=
  if g p = 100 then onO (rdF g) p
  else if g p = 102 then onO (rdN g) p
  else if g p = 108 then onO (rdN g) p
  else if g p = 109 then twO g (rdF g) 47 (rdF g) p
  else if g p = 110 then twO g (rdN g) 60 (rdN g) p
  else if g p = 114 then (true, p + 1, 0, 0)
  else if g p = 118 then twO g (rdF g) 47 (rdF g) p
  else if g p = 119 then twO g (rdF g) 61 (rdN g) p
  else (false, p, 0, 0)
def usB (c : Int32) : Prop := c = 109 ∨ c = 110 ∨ c = 118 ∨ c = 119
theorem fl_n {x : Int32} (h : isF x = true) : nI x.toNatClampNeg = x := by
  obtain ⟨j, hj, rfl⟩ := isF_of h
  rw [nI_c (show j < 2147483648 by omega)]
theorem c_sign' {C : SM} {S l p : Nat} {T f : Nat → Int32} (h : RA C S l T) (hp : p ≤ 1000) (hf : f 1 = nI p) (c : Int32) : cl 84 [.ref (S + 108), .int c] (sI C (S + 108) f) = if gT T l p = c then some (some (.int 1), sI C (S + 108) (va_up f 1 (nI (p + 1)))) else some (some (.int 0), sI C (S + 108) f) := by
  have := c_readSign (h.sI f) hp (by rw [mI_sI, if_pos rfl]; exact hf) c
  simp only [mI_sI, ↓reduceIte, sI_sI] at this
  exact this
theorem c_file1' {C : SM} {S l p : Nat} {T f : Nat → Int32} (h : RA C S l T) (hp : p ≤ 1000) (hf : f 1 = nI p) : cl 85 [.ref (S + 108)] (sI C (S + 108) f) = if isF (gT T l p - 97) = true then some (some (.int 1), sI C (S + 108) (va_up (va_up f 1 (nI (p + 1))) 3 (gT T l p - 97))) else some (some (.int 0), sI C (S + 108) (va_up f 3 (-6))) := by
  have := c_file1 (h.sI f) hp (by rw [mI_sI, if_pos rfl]; exact hf)
  simp only [mI_sI, ↓reduceIte, sI_sI] at this
  exact this
theorem c_file2' {C : SM} {S l p : Nat} {T f : Nat → Int32} (h : RA C S l T) (hp : p ≤ 1000) (hf : f 1 = nI p) : cl 87 [.ref (S + 108)] (sI C (S + 108) f) = if isF (gT T l p - 97) = true then some (some (.int 1), sI C (S + 108) (va_up (va_up f 1 (nI (p + 1))) 4 (gT T l p - 97))) else some (some (.int 0), sI C (S + 108) (va_up f 4 (-6))) := by
  have := c_file2 (h.sI f) hp (by rw [mI_sI, if_pos rfl]; exact hf)
  simp only [mI_sI, ↓reduceIte, sI_sI] at this
  exact this
theorem c_num1' {C : SM} {S l p : Nat} {T f : Nat → Int32} (h : RA C S l T) (hp : p ≤ 900) (hf : f 1 = nI p) : cl 91 [.ref (S + 108)] (sI C (S + 108) f) = match rdN (gT T l) p with | some (v, q) => some (some (.int 1), sI C (S + 108) (va_up (va_up f 1 (nI q)) 3 (nI v))) | none => some (some (.int 0), sI C (S + 108) (va_up f 3 (-6))) := by
  have := c_num1 (h.sI f) hp (by rw [mI_sI, if_pos rfl]; exact hf)
  simp only [mI_sI, ↓reduceIte, sI_sI] at this
  exact this
theorem c_num2' {C : SM} {S l p : Nat} {T f : Nat → Int32} (h : RA C S l T) (hp : p ≤ 900) (hf : f 1 = nI p) : cl 88 [.ref (S + 108)] (sI C (S + 108) f) = match rdN (gT T l) p with | some (v, q) => some (some (.int 1), sI C (S + 108) (va_up (va_up f 1 (nI q)) 4 (nI v))) | none => some (some (.int 0), sI C (S + 108) (va_up f 4 (-6))) := by
  have := c_num2 (h.sI f) hp (by rw [mI_sI, if_pos rfl]; exact hf)
  simp only [mI_sI, ↓reduceIte, sI_sI] at this
  exact this
theorem c_readOrder {C : SM} {S l p : Nat} {T : Nat → Int32} (h : RA C S l T) (hp : p ≤ 800) (ha : mI C (S + 108) 1 = nI p) : ∃ F, cl 82 [.ref (S + 108)] C = some (some (.int (if (rdO (gT T l) p).1 = true then 1 else 0)), sI C (S + 108) F) ∧ F 1 = nI (rdO (gT T l) p).2.1 ∧ F 2 = gT T l p ∧ ((rdO (gT T l) p).1 = true → (¬ gT T l p = 114 → F 3 = nI (rdO (gT T l) p).2.2.1) ∧ (usB (gT T l p) → F 4 = nI (rdO (gT T l) p).2.2.2)) := by
  have hc := c_codeAt h (p := p) (by omega)
  have hk := h.1
  have hpd := h.2.1
  have hkp := h.2.2.1
  have one0 : ((1 : Int32) = 0) = False := by decide
  show ∃ F, rn 82 0 [some (.ref (S + 108))] [] C = _ ∧ _
  obtain ⟨r0, hr0⟩ : ∃ r0, r0 = mI C (S + 108) := ⟨_, rfl⟩
  have hs0 := c_sign' h (f := va_up r0 2 (gT T l p)) (p := p) (by omega) (by rw [va_up_ne _ _ (by decide), hr0]; exact ha) (gT T l p)
  rw [if_pos rfl] at hs0
  have F2 : ∀ x, va_up (va_up r0 2 (gT T l p)) 1 x = va_up (va_up r0 2 (gT T l p)) 1 x := fun _ => rfl
  by_cases n100 : gT T l p = 100
  · have hx := n100
    have t100 : (gT T l p = 100) = True := by rw [hx]; decide
    have t102 : (gT T l p = 102) = False := by rw [hx]; decide
    have t108 : (gT T l p = 108) = False := by rw [hx]; decide
    have t109 : (gT T l p = 109) = False := by rw [hx]; decide
    have t110 : (gT T l p = 110) = False := by rw [hx]; decide
    have t114 : (gT T l p = 114) = False := by rw [hx]; decide
    have t118 : (gT T l p = 118) = False := by rw [hx]; decide
    have t119 : (gT T l p = 119) = False := by rw [hx]; decide
    have h1 := c_file1' h (f := va_up (va_up r0 2 (gT T l p)) 1 (nI (p + 1))) (p := p + 1) (by omega) (by simp [va_up])
    cases hF1 : isF (gT T l (p + 1) - 97) with
    | true =>
      rw [if_pos hF1] at h1
      have hv1 := fl_n hF1
      have er : rdO (gT T l) p = (true, p + 1 + 1, (gT T l (p + 1) - 97).toNatClampNeg, 0) := by
        unfold rdO
        simp only [t100, t102, t108, t109, t110, t114, t118, t119, ↓reduceIte, onO, rdF, hF1]
      have e : rn 82 0 [some (.ref (S + 108))] [] C = some (some (.int 1), sI C (S + 108) (va_up (va_up (va_up (va_up r0 2 (gT T l p)) 1 (nI (p + 1))) 1 (nI (p + 1 + 1))) 3 (gT T l (p + 1) - 97))) := by
        simp only [t82_0, t82_1, t82_2, t82_5, t82_6, t82_9, t82_12, t82_15, t82_16, t82_19, t82_112, t82_113, t82_114, t82_117, t82_120, t82_123, t82_124, t82_127, t82_130, t82_131, t82_133, t82_136, t82_139, t82_140, t82_143, t82_146, t82_147, t82_150, t82_151, t82_152, t82_153, t82_154, t82_157, t82_160, t82_163, t82_164, t82_167, t82_170, t82_171, t82_173, t82_176, t82_179, t82_180, t82_183, t82_186, t82_187, t82_190, t82_191, t82_192, t82_193, t82_194, t82_197, t82_200, t82_203, t82_204, t82_207, t82_210, t82_211, t82_214, t82_215, t82_216, t82_217, t82_218, t82_221, t82_224, t82_227, t82_228, t82_231, t82_234, t82_235, t82_238, t82_239, t82_240, t82_241, t82_242, t82_245, t82_248, t82_251, t82_252, t82_255, t82_258, t82_259, t82_261, t82_264, t82_267, t82_268, t82_271, t82_274, t82_275, t82_278, t82_279, t82_280, t82_281, t82_282, t82_285, t82_288, t82_289, t82_290, t100, t102, t108, t109, t110, t114, t118, t119, hk, hpd, hkp, ha, va_rf_s, hc, cbn_i, mK_sI, mP_sI, mI_sI, sI_sI, ← hr0, va_up_self, or_true, true_or, not_true_eq_false, not_false_eq_true, one0, ↓reduceIte, hs0, h1]
      rw [er]
      refine ⟨va_up (va_up (va_up (va_up r0 2 (gT T l p)) 1 (nI (p + 1))) 1 (nI (p + 1 + 1))) 3 (gT T l (p + 1) - 97), e, ?_, ?_, ?_⟩
      · simp [va_up]
      · simp [va_up]
      · exact fun _ => ⟨fun _ => by simp [va_up, hv1], fun z => absurd z (by rw [hx]; unfold usB; decide)⟩
    | false =>
      rw [if_neg (by rw [hF1]; decide)] at h1
      have er : rdO (gT T l) p = (false, p + 1, 0, 0) := by
        unfold rdO
        simp only [t100, t102, t108, t109, t110, t114, t118, t119, ↓reduceIte, onO, rdF, hF1, Bool.false_eq_true]
      have e : rn 82 0 [some (.ref (S + 108))] [] C = some (some (.int 0), sI C (S + 108) (va_up (va_up (va_up r0 2 (gT T l p)) 1 (nI (p + 1))) 3 (-6))) := by
        simp only [t82_0, t82_1, t82_2, t82_5, t82_6, t82_9, t82_12, t82_15, t82_16, t82_19, t82_112, t82_113, t82_114, t82_117, t82_120, t82_123, t82_124, t82_127, t82_130, t82_131, t82_133, t82_136, t82_139, t82_140, t82_143, t82_146, t82_147, t82_150, t82_151, t82_152, t82_153, t82_154, t82_157, t82_160, t82_163, t82_164, t82_167, t82_170, t82_171, t82_173, t82_176, t82_179, t82_180, t82_183, t82_186, t82_187, t82_190, t82_191, t82_192, t82_193, t82_194, t82_197, t82_200, t82_203, t82_204, t82_207, t82_210, t82_211, t82_214, t82_215, t82_216, t82_217, t82_218, t82_221, t82_224, t82_227, t82_228, t82_231, t82_234, t82_235, t82_238, t82_239, t82_240, t82_241, t82_242, t82_245, t82_248, t82_251, t82_252, t82_255, t82_258, t82_259, t82_261, t82_264, t82_267, t82_268, t82_271, t82_274, t82_275, t82_278, t82_279, t82_280, t82_281, t82_282, t82_285, t82_288, t82_289, t82_290, t100, t102, t108, t109, t110, t114, t118, t119, hk, hpd, hkp, ha, va_rf_s, hc, cbn_i, mK_sI, mP_sI, mI_sI, sI_sI, ← hr0, va_up_self, or_true, true_or, not_true_eq_false, not_false_eq_true, one0, ↓reduceIte, hs0, h1]
      rw [er]
      refine ⟨va_up (va_up (va_up r0 2 (gT T l p)) 1 (nI (p + 1))) 3 (-6), e, ?_, ?_, ?_⟩
      · simp [va_up]
      · simp [va_up]
      · intro z; cases z
  by_cases n102 : gT T l p = 102
  · have hx := n102
    have t100 : (gT T l p = 100) = False := by rw [hx]; decide
    have t102 : (gT T l p = 102) = True := by rw [hx]; decide
    have t108 : (gT T l p = 108) = False := by rw [hx]; decide
    have t109 : (gT T l p = 109) = False := by rw [hx]; decide
    have t110 : (gT T l p = 110) = False := by rw [hx]; decide
    have t114 : (gT T l p = 114) = False := by rw [hx]; decide
    have t118 : (gT T l p = 118) = False := by rw [hx]; decide
    have t119 : (gT T l p = 119) = False := by rw [hx]; decide
    have h1 := c_num1' h (f := va_up (va_up r0 2 (gT T l p)) 1 (nI (p + 1))) (p := p + 1) (by omega) (by simp [va_up])
    cases hF1 : rdN (gT T l) (p + 1) with
    | some r =>
      obtain ⟨a, q1⟩ := r
      rw [hF1] at h1
      dsimp only at h1
      have hq1 := rdN_v hF1
      have er : rdO (gT T l) p = (true, q1, a, 0) := by
        unfold rdO
        simp only [t100, t102, t108, t109, t110, t114, t118, t119, ↓reduceIte, onO, hF1]
      have e : rn 82 0 [some (.ref (S + 108))] [] C = some (some (.int 1), sI C (S + 108) (va_up (va_up (va_up (va_up r0 2 (gT T l p)) 1 (nI (p + 1))) 1 (nI (q1))) 3 (nI a))) := by
        simp only [t82_0, t82_1, t82_2, t82_5, t82_6, t82_9, t82_12, t82_15, t82_16, t82_19, t82_112, t82_113, t82_114, t82_117, t82_120, t82_123, t82_124, t82_127, t82_130, t82_131, t82_133, t82_136, t82_139, t82_140, t82_143, t82_146, t82_147, t82_150, t82_151, t82_152, t82_153, t82_154, t82_157, t82_160, t82_163, t82_164, t82_167, t82_170, t82_171, t82_173, t82_176, t82_179, t82_180, t82_183, t82_186, t82_187, t82_190, t82_191, t82_192, t82_193, t82_194, t82_197, t82_200, t82_203, t82_204, t82_207, t82_210, t82_211, t82_214, t82_215, t82_216, t82_217, t82_218, t82_221, t82_224, t82_227, t82_228, t82_231, t82_234, t82_235, t82_238, t82_239, t82_240, t82_241, t82_242, t82_245, t82_248, t82_251, t82_252, t82_255, t82_258, t82_259, t82_261, t82_264, t82_267, t82_268, t82_271, t82_274, t82_275, t82_278, t82_279, t82_280, t82_281, t82_282, t82_285, t82_288, t82_289, t82_290, t100, t102, t108, t109, t110, t114, t118, t119, hk, hpd, hkp, ha, va_rf_s, hc, cbn_i, mK_sI, mP_sI, mI_sI, sI_sI, ← hr0, va_up_self, or_true, true_or, not_true_eq_false, not_false_eq_true, one0, ↓reduceIte, hs0, h1]
      rw [er]
      refine ⟨va_up (va_up (va_up (va_up r0 2 (gT T l p)) 1 (nI (p + 1))) 1 (nI (q1))) 3 (nI a), e, ?_, ?_, ?_⟩
      · simp [va_up]
      · simp [va_up]
      · exact fun _ => ⟨fun _ => by simp [va_up], fun z => absurd z (by rw [hx]; unfold usB; decide)⟩
    | none =>
      rw [hF1] at h1
      dsimp only at h1
      have er : rdO (gT T l) p = (false, p + 1, 0, 0) := by
        unfold rdO
        simp only [t100, t102, t108, t109, t110, t114, t118, t119, ↓reduceIte, onO, hF1]
      have e : rn 82 0 [some (.ref (S + 108))] [] C = some (some (.int 0), sI C (S + 108) (va_up (va_up (va_up r0 2 (gT T l p)) 1 (nI (p + 1))) 3 (-6))) := by
        simp only [t82_0, t82_1, t82_2, t82_5, t82_6, t82_9, t82_12, t82_15, t82_16, t82_19, t82_112, t82_113, t82_114, t82_117, t82_120, t82_123, t82_124, t82_127, t82_130, t82_131, t82_133, t82_136, t82_139, t82_140, t82_143, t82_146, t82_147, t82_150, t82_151, t82_152, t82_153, t82_154, t82_157, t82_160, t82_163, t82_164, t82_167, t82_170, t82_171, t82_173, t82_176, t82_179, t82_180, t82_183, t82_186, t82_187, t82_190, t82_191, t82_192, t82_193, t82_194, t82_197, t82_200, t82_203, t82_204, t82_207, t82_210, t82_211, t82_214, t82_215, t82_216, t82_217, t82_218, t82_221, t82_224, t82_227, t82_228, t82_231, t82_234, t82_235, t82_238, t82_239, t82_240, t82_241, t82_242, t82_245, t82_248, t82_251, t82_252, t82_255, t82_258, t82_259, t82_261, t82_264, t82_267, t82_268, t82_271, t82_274, t82_275, t82_278, t82_279, t82_280, t82_281, t82_282, t82_285, t82_288, t82_289, t82_290, t100, t102, t108, t109, t110, t114, t118, t119, hk, hpd, hkp, ha, va_rf_s, hc, cbn_i, mK_sI, mP_sI, mI_sI, sI_sI, ← hr0, va_up_self, or_true, true_or, not_true_eq_false, not_false_eq_true, one0, ↓reduceIte, hs0, h1]
      rw [er]
      refine ⟨va_up (va_up (va_up r0 2 (gT T l p)) 1 (nI (p + 1))) 3 (-6), e, ?_, ?_, ?_⟩
      · simp [va_up]
      · simp [va_up]
      · intro z; cases z
  by_cases n108 : gT T l p = 108
  · have hx := n108
    have t100 : (gT T l p = 100) = False := by rw [hx]; decide
    have t102 : (gT T l p = 102) = False := by rw [hx]; decide
    have t108 : (gT T l p = 108) = True := by rw [hx]; decide
    have t109 : (gT T l p = 109) = False := by rw [hx]; decide
    have t110 : (gT T l p = 110) = False := by rw [hx]; decide
    have t114 : (gT T l p = 114) = False := by rw [hx]; decide
    have t118 : (gT T l p = 118) = False := by rw [hx]; decide
    have t119 : (gT T l p = 119) = False := by rw [hx]; decide
    have h1 := c_num1' h (f := va_up (va_up r0 2 (gT T l p)) 1 (nI (p + 1))) (p := p + 1) (by omega) (by simp [va_up])
    cases hF1 : rdN (gT T l) (p + 1) with
    | some r =>
      obtain ⟨a, q1⟩ := r
      rw [hF1] at h1
      dsimp only at h1
      have hq1 := rdN_v hF1
      have er : rdO (gT T l) p = (true, q1, a, 0) := by
        unfold rdO
        simp only [t100, t102, t108, t109, t110, t114, t118, t119, ↓reduceIte, onO, hF1]
      have e : rn 82 0 [some (.ref (S + 108))] [] C = some (some (.int 1), sI C (S + 108) (va_up (va_up (va_up (va_up r0 2 (gT T l p)) 1 (nI (p + 1))) 1 (nI (q1))) 3 (nI a))) := by
        simp only [t82_0, t82_1, t82_2, t82_5, t82_6, t82_9, t82_12, t82_15, t82_16, t82_19, t82_112, t82_113, t82_114, t82_117, t82_120, t82_123, t82_124, t82_127, t82_130, t82_131, t82_133, t82_136, t82_139, t82_140, t82_143, t82_146, t82_147, t82_150, t82_151, t82_152, t82_153, t82_154, t82_157, t82_160, t82_163, t82_164, t82_167, t82_170, t82_171, t82_173, t82_176, t82_179, t82_180, t82_183, t82_186, t82_187, t82_190, t82_191, t82_192, t82_193, t82_194, t82_197, t82_200, t82_203, t82_204, t82_207, t82_210, t82_211, t82_214, t82_215, t82_216, t82_217, t82_218, t82_221, t82_224, t82_227, t82_228, t82_231, t82_234, t82_235, t82_238, t82_239, t82_240, t82_241, t82_242, t82_245, t82_248, t82_251, t82_252, t82_255, t82_258, t82_259, t82_261, t82_264, t82_267, t82_268, t82_271, t82_274, t82_275, t82_278, t82_279, t82_280, t82_281, t82_282, t82_285, t82_288, t82_289, t82_290, t100, t102, t108, t109, t110, t114, t118, t119, hk, hpd, hkp, ha, va_rf_s, hc, cbn_i, mK_sI, mP_sI, mI_sI, sI_sI, ← hr0, va_up_self, or_true, true_or, not_true_eq_false, not_false_eq_true, one0, ↓reduceIte, hs0, h1]
      rw [er]
      refine ⟨va_up (va_up (va_up (va_up r0 2 (gT T l p)) 1 (nI (p + 1))) 1 (nI (q1))) 3 (nI a), e, ?_, ?_, ?_⟩
      · simp [va_up]
      · simp [va_up]
      · exact fun _ => ⟨fun _ => by simp [va_up], fun z => absurd z (by rw [hx]; unfold usB; decide)⟩
    | none =>
      rw [hF1] at h1
      dsimp only at h1
      have er : rdO (gT T l) p = (false, p + 1, 0, 0) := by
        unfold rdO
        simp only [t100, t102, t108, t109, t110, t114, t118, t119, ↓reduceIte, onO, hF1]
      have e : rn 82 0 [some (.ref (S + 108))] [] C = some (some (.int 0), sI C (S + 108) (va_up (va_up (va_up r0 2 (gT T l p)) 1 (nI (p + 1))) 3 (-6))) := by
        simp only [t82_0, t82_1, t82_2, t82_5, t82_6, t82_9, t82_12, t82_15, t82_16, t82_19, t82_112, t82_113, t82_114, t82_117, t82_120, t82_123, t82_124, t82_127, t82_130, t82_131, t82_133, t82_136, t82_139, t82_140, t82_143, t82_146, t82_147, t82_150, t82_151, t82_152, t82_153, t82_154, t82_157, t82_160, t82_163, t82_164, t82_167, t82_170, t82_171, t82_173, t82_176, t82_179, t82_180, t82_183, t82_186, t82_187, t82_190, t82_191, t82_192, t82_193, t82_194, t82_197, t82_200, t82_203, t82_204, t82_207, t82_210, t82_211, t82_214, t82_215, t82_216, t82_217, t82_218, t82_221, t82_224, t82_227, t82_228, t82_231, t82_234, t82_235, t82_238, t82_239, t82_240, t82_241, t82_242, t82_245, t82_248, t82_251, t82_252, t82_255, t82_258, t82_259, t82_261, t82_264, t82_267, t82_268, t82_271, t82_274, t82_275, t82_278, t82_279, t82_280, t82_281, t82_282, t82_285, t82_288, t82_289, t82_290, t100, t102, t108, t109, t110, t114, t118, t119, hk, hpd, hkp, ha, va_rf_s, hc, cbn_i, mK_sI, mP_sI, mI_sI, sI_sI, ← hr0, va_up_self, or_true, true_or, not_true_eq_false, not_false_eq_true, one0, ↓reduceIte, hs0, h1]
      rw [er]
      refine ⟨va_up (va_up (va_up r0 2 (gT T l p)) 1 (nI (p + 1))) 3 (-6), e, ?_, ?_, ?_⟩
      · simp [va_up]
      · simp [va_up]
      · intro z; cases z
  by_cases n109 : gT T l p = 109
  · have hx := n109
    have t100 : (gT T l p = 100) = False := by rw [hx]; decide
    have t102 : (gT T l p = 102) = False := by rw [hx]; decide
    have t108 : (gT T l p = 108) = False := by rw [hx]; decide
    have t109 : (gT T l p = 109) = True := by rw [hx]; decide
    have t110 : (gT T l p = 110) = False := by rw [hx]; decide
    have t114 : (gT T l p = 114) = False := by rw [hx]; decide
    have t118 : (gT T l p = 118) = False := by rw [hx]; decide
    have t119 : (gT T l p = 119) = False := by rw [hx]; decide
    have h1 := c_file1' h (f := va_up (va_up r0 2 (gT T l p)) 1 (nI (p + 1))) (p := p + 1) (by omega) (by simp [va_up])
    cases hF1 : isF (gT T l (p + 1) - 97) with
    | true =>
      rw [if_pos hF1] at h1
      have hv1 := fl_n hF1
      have h2 := c_sign' h (f := va_up (va_up (va_up (va_up r0 2 (gT T l p)) 1 (nI (p + 1))) 1 (nI (p + 1 + 1))) 3 (gT T l (p + 1) - 97)) (p := p + 1 + 1) (by omega) (by simp [va_up]) 47
      by_cases hg : gT T l (p + 1 + 1) = 47
      · rw [if_pos hg] at h2
        have h3 := c_file2' h (f := va_up (va_up (va_up (va_up (va_up r0 2 (gT T l p)) 1 (nI (p + 1))) 1 (nI (p + 1 + 1))) 3 (gT T l (p + 1) - 97)) 1 (nI (p + 1 + 1 + 1))) (p := p + 1 + 1 + 1) (by omega) (by simp [va_up])
        cases hF : isF (gT T l (p + 1 + 1 + 1) - 97) with
        | true =>
          rw [if_pos hF] at h3
          have hv2 := fl_n hF
          have er : rdO (gT T l) p = (true, p + 1 + 1 + 1 + 1, (gT T l (p + 1) - 97).toNatClampNeg, (gT T l (p + 1 + 1 + 1) - 97).toNatClampNeg) := by
            unfold rdO
            simp only [t100, t102, t108, t109, t110, t114, t118, t119, ↓reduceIte, twO, rdF, hF1, hg, hF, rdF]
          have e : rn 82 0 [some (.ref (S + 108))] [] C = some (some (.int 1), sI C (S + 108) (va_up (va_up (va_up (va_up (va_up (va_up (va_up r0 2 (gT T l p)) 1 (nI (p + 1))) 1 (nI (p + 1 + 1))) 3 (gT T l (p + 1) - 97)) 1 (nI (p + 1 + 1 + 1))) 1 (nI (p + 1 + 1 + 1 + 1))) 4 (gT T l (p + 1 + 1 + 1) - 97))) := by
            simp only [t82_0, t82_1, t82_2, t82_5, t82_6, t82_9, t82_12, t82_15, t82_16, t82_19, t82_112, t82_113, t82_114, t82_117, t82_120, t82_123, t82_124, t82_127, t82_130, t82_131, t82_133, t82_136, t82_139, t82_140, t82_143, t82_146, t82_147, t82_150, t82_151, t82_152, t82_153, t82_154, t82_157, t82_160, t82_163, t82_164, t82_167, t82_170, t82_171, t82_173, t82_176, t82_179, t82_180, t82_183, t82_186, t82_187, t82_190, t82_191, t82_192, t82_193, t82_194, t82_197, t82_200, t82_203, t82_204, t82_207, t82_210, t82_211, t82_214, t82_215, t82_216, t82_217, t82_218, t82_221, t82_224, t82_227, t82_228, t82_231, t82_234, t82_235, t82_238, t82_239, t82_240, t82_241, t82_242, t82_245, t82_248, t82_251, t82_252, t82_255, t82_258, t82_259, t82_261, t82_264, t82_267, t82_268, t82_271, t82_274, t82_275, t82_278, t82_279, t82_280, t82_281, t82_282, t82_285, t82_288, t82_289, t82_290, t100, t102, t108, t109, t110, t114, t118, t119, hk, hpd, hkp, ha, va_rf_s, hc, cbn_i, mK_sI, mP_sI, mI_sI, sI_sI, ← hr0, va_up_self, or_true, true_or, not_true_eq_false, not_false_eq_true, one0, ↓reduceIte, hs0, h1, h2, h3]
          rw [er]
          refine ⟨va_up (va_up (va_up (va_up (va_up (va_up (va_up r0 2 (gT T l p)) 1 (nI (p + 1))) 1 (nI (p + 1 + 1))) 3 (gT T l (p + 1) - 97)) 1 (nI (p + 1 + 1 + 1))) 1 (nI (p + 1 + 1 + 1 + 1))) 4 (gT T l (p + 1 + 1 + 1) - 97), e, ?_, ?_, ?_⟩
          · simp [va_up]
          · simp [va_up]
          · exact fun _ => ⟨fun _ => by simp [va_up, hv1], fun _ => by simp [va_up, hv2]⟩
        | false =>
          rw [if_neg (by rw [hF]; decide)] at h3
          have er : rdO (gT T l) p = (false, p + 1 + 1 + 1, 0, 0) := by
            unfold rdO
            simp only [t100, t102, t108, t109, t110, t114, t118, t119, ↓reduceIte, twO, rdF, hF1, hg, hF, rdF, Bool.false_eq_true]
          have e : rn 82 0 [some (.ref (S + 108))] [] C = some (some (.int 0), sI C (S + 108) (va_up (va_up (va_up (va_up (va_up (va_up r0 2 (gT T l p)) 1 (nI (p + 1))) 1 (nI (p + 1 + 1))) 3 (gT T l (p + 1) - 97)) 1 (nI (p + 1 + 1 + 1))) 4 (-6))) := by
            simp only [t82_0, t82_1, t82_2, t82_5, t82_6, t82_9, t82_12, t82_15, t82_16, t82_19, t82_112, t82_113, t82_114, t82_117, t82_120, t82_123, t82_124, t82_127, t82_130, t82_131, t82_133, t82_136, t82_139, t82_140, t82_143, t82_146, t82_147, t82_150, t82_151, t82_152, t82_153, t82_154, t82_157, t82_160, t82_163, t82_164, t82_167, t82_170, t82_171, t82_173, t82_176, t82_179, t82_180, t82_183, t82_186, t82_187, t82_190, t82_191, t82_192, t82_193, t82_194, t82_197, t82_200, t82_203, t82_204, t82_207, t82_210, t82_211, t82_214, t82_215, t82_216, t82_217, t82_218, t82_221, t82_224, t82_227, t82_228, t82_231, t82_234, t82_235, t82_238, t82_239, t82_240, t82_241, t82_242, t82_245, t82_248, t82_251, t82_252, t82_255, t82_258, t82_259, t82_261, t82_264, t82_267, t82_268, t82_271, t82_274, t82_275, t82_278, t82_279, t82_280, t82_281, t82_282, t82_285, t82_288, t82_289, t82_290, t100, t102, t108, t109, t110, t114, t118, t119, hk, hpd, hkp, ha, va_rf_s, hc, cbn_i, mK_sI, mP_sI, mI_sI, sI_sI, ← hr0, va_up_self, or_true, true_or, not_true_eq_false, not_false_eq_true, one0, ↓reduceIte, hs0, h1, h2, h3]
          rw [er]
          refine ⟨va_up (va_up (va_up (va_up (va_up (va_up r0 2 (gT T l p)) 1 (nI (p + 1))) 1 (nI (p + 1 + 1))) 3 (gT T l (p + 1) - 97)) 1 (nI (p + 1 + 1 + 1))) 4 (-6), e, ?_, ?_, ?_⟩
          · simp [va_up]
          · simp [va_up]
          · intro z; cases z
      · rw [if_neg hg] at h2
        have er : rdO (gT T l) p = (false, p + 1 + 1, 0, 0) := by
          unfold rdO
          simp only [t100, t102, t108, t109, t110, t114, t118, t119, ↓reduceIte, twO, rdF, hF1, hg]
        have e : rn 82 0 [some (.ref (S + 108))] [] C = some (some (.int 0), sI C (S + 108) (va_up (va_up (va_up (va_up r0 2 (gT T l p)) 1 (nI (p + 1))) 1 (nI (p + 1 + 1))) 3 (gT T l (p + 1) - 97))) := by
          simp only [t82_0, t82_1, t82_2, t82_5, t82_6, t82_9, t82_12, t82_15, t82_16, t82_19, t82_112, t82_113, t82_114, t82_117, t82_120, t82_123, t82_124, t82_127, t82_130, t82_131, t82_133, t82_136, t82_139, t82_140, t82_143, t82_146, t82_147, t82_150, t82_151, t82_152, t82_153, t82_154, t82_157, t82_160, t82_163, t82_164, t82_167, t82_170, t82_171, t82_173, t82_176, t82_179, t82_180, t82_183, t82_186, t82_187, t82_190, t82_191, t82_192, t82_193, t82_194, t82_197, t82_200, t82_203, t82_204, t82_207, t82_210, t82_211, t82_214, t82_215, t82_216, t82_217, t82_218, t82_221, t82_224, t82_227, t82_228, t82_231, t82_234, t82_235, t82_238, t82_239, t82_240, t82_241, t82_242, t82_245, t82_248, t82_251, t82_252, t82_255, t82_258, t82_259, t82_261, t82_264, t82_267, t82_268, t82_271, t82_274, t82_275, t82_278, t82_279, t82_280, t82_281, t82_282, t82_285, t82_288, t82_289, t82_290, t100, t102, t108, t109, t110, t114, t118, t119, hk, hpd, hkp, ha, va_rf_s, hc, cbn_i, mK_sI, mP_sI, mI_sI, sI_sI, ← hr0, va_up_self, or_true, true_or, not_true_eq_false, not_false_eq_true, one0, ↓reduceIte, hs0, h1, h2]
        rw [er]
        refine ⟨va_up (va_up (va_up (va_up r0 2 (gT T l p)) 1 (nI (p + 1))) 1 (nI (p + 1 + 1))) 3 (gT T l (p + 1) - 97), e, ?_, ?_, ?_⟩
        · simp [va_up]
        · simp [va_up]
        · intro z; cases z
    | false =>
      rw [if_neg (by rw [hF1]; decide)] at h1
      have er : rdO (gT T l) p = (false, p + 1, 0, 0) := by
        unfold rdO
        simp only [t100, t102, t108, t109, t110, t114, t118, t119, ↓reduceIte, twO, rdF, hF1, Bool.false_eq_true]
      have e : rn 82 0 [some (.ref (S + 108))] [] C = some (some (.int 0), sI C (S + 108) (va_up (va_up (va_up r0 2 (gT T l p)) 1 (nI (p + 1))) 3 (-6))) := by
        simp only [t82_0, t82_1, t82_2, t82_5, t82_6, t82_9, t82_12, t82_15, t82_16, t82_19, t82_112, t82_113, t82_114, t82_117, t82_120, t82_123, t82_124, t82_127, t82_130, t82_131, t82_133, t82_136, t82_139, t82_140, t82_143, t82_146, t82_147, t82_150, t82_151, t82_152, t82_153, t82_154, t82_157, t82_160, t82_163, t82_164, t82_167, t82_170, t82_171, t82_173, t82_176, t82_179, t82_180, t82_183, t82_186, t82_187, t82_190, t82_191, t82_192, t82_193, t82_194, t82_197, t82_200, t82_203, t82_204, t82_207, t82_210, t82_211, t82_214, t82_215, t82_216, t82_217, t82_218, t82_221, t82_224, t82_227, t82_228, t82_231, t82_234, t82_235, t82_238, t82_239, t82_240, t82_241, t82_242, t82_245, t82_248, t82_251, t82_252, t82_255, t82_258, t82_259, t82_261, t82_264, t82_267, t82_268, t82_271, t82_274, t82_275, t82_278, t82_279, t82_280, t82_281, t82_282, t82_285, t82_288, t82_289, t82_290, t100, t102, t108, t109, t110, t114, t118, t119, hk, hpd, hkp, ha, va_rf_s, hc, cbn_i, mK_sI, mP_sI, mI_sI, sI_sI, ← hr0, va_up_self, or_true, true_or, not_true_eq_false, not_false_eq_true, one0, ↓reduceIte, hs0, h1]
      rw [er]
      refine ⟨va_up (va_up (va_up r0 2 (gT T l p)) 1 (nI (p + 1))) 3 (-6), e, ?_, ?_, ?_⟩
      · simp [va_up]
      · simp [va_up]
      · intro z; cases z
  by_cases n110 : gT T l p = 110
  · have hx := n110
    have t100 : (gT T l p = 100) = False := by rw [hx]; decide
    have t102 : (gT T l p = 102) = False := by rw [hx]; decide
    have t108 : (gT T l p = 108) = False := by rw [hx]; decide
    have t109 : (gT T l p = 109) = False := by rw [hx]; decide
    have t110 : (gT T l p = 110) = True := by rw [hx]; decide
    have t114 : (gT T l p = 114) = False := by rw [hx]; decide
    have t118 : (gT T l p = 118) = False := by rw [hx]; decide
    have t119 : (gT T l p = 119) = False := by rw [hx]; decide
    have h1 := c_num1' h (f := va_up (va_up r0 2 (gT T l p)) 1 (nI (p + 1))) (p := p + 1) (by omega) (by simp [va_up])
    cases hF1 : rdN (gT T l) (p + 1) with
    | some r =>
      obtain ⟨a, q1⟩ := r
      rw [hF1] at h1
      dsimp only at h1
      have hq1 := rdN_v hF1
      have h2 := c_sign' h (f := va_up (va_up (va_up (va_up r0 2 (gT T l p)) 1 (nI (p + 1))) 1 (nI (q1))) 3 (nI a)) (p := q1) (by omega) (by simp [va_up]) 60
      by_cases hg : gT T l (q1) = 60
      · rw [if_pos hg] at h2
        have h3 := c_num2' h (f := va_up (va_up (va_up (va_up (va_up r0 2 (gT T l p)) 1 (nI (p + 1))) 1 (nI (q1))) 3 (nI a)) 1 (nI (q1 + 1))) (p := q1 + 1) (by omega) (by simp [va_up])
        cases hF : rdN (gT T l) (q1 + 1) with
        | some r =>
          obtain ⟨b, q2⟩ := r
          rw [hF] at h3
          dsimp only at h3
          have er : rdO (gT T l) p = (true, q2, a, b) := by
            unfold rdO
            simp only [t100, t102, t108, t109, t110, t114, t118, t119, ↓reduceIte, twO, hF1, hg, hF]
          have e : rn 82 0 [some (.ref (S + 108))] [] C = some (some (.int 1), sI C (S + 108) (va_up (va_up (va_up (va_up (va_up (va_up (va_up r0 2 (gT T l p)) 1 (nI (p + 1))) 1 (nI (q1))) 3 (nI a)) 1 (nI (q1 + 1))) 1 (nI q2)) 4 (nI b))) := by
            simp only [t82_0, t82_1, t82_2, t82_5, t82_6, t82_9, t82_12, t82_15, t82_16, t82_19, t82_112, t82_113, t82_114, t82_117, t82_120, t82_123, t82_124, t82_127, t82_130, t82_131, t82_133, t82_136, t82_139, t82_140, t82_143, t82_146, t82_147, t82_150, t82_151, t82_152, t82_153, t82_154, t82_157, t82_160, t82_163, t82_164, t82_167, t82_170, t82_171, t82_173, t82_176, t82_179, t82_180, t82_183, t82_186, t82_187, t82_190, t82_191, t82_192, t82_193, t82_194, t82_197, t82_200, t82_203, t82_204, t82_207, t82_210, t82_211, t82_214, t82_215, t82_216, t82_217, t82_218, t82_221, t82_224, t82_227, t82_228, t82_231, t82_234, t82_235, t82_238, t82_239, t82_240, t82_241, t82_242, t82_245, t82_248, t82_251, t82_252, t82_255, t82_258, t82_259, t82_261, t82_264, t82_267, t82_268, t82_271, t82_274, t82_275, t82_278, t82_279, t82_280, t82_281, t82_282, t82_285, t82_288, t82_289, t82_290, t100, t102, t108, t109, t110, t114, t118, t119, hk, hpd, hkp, ha, va_rf_s, hc, cbn_i, mK_sI, mP_sI, mI_sI, sI_sI, ← hr0, va_up_self, or_true, true_or, not_true_eq_false, not_false_eq_true, one0, ↓reduceIte, hs0, h1, h2, h3]
          rw [er]
          refine ⟨va_up (va_up (va_up (va_up (va_up (va_up (va_up r0 2 (gT T l p)) 1 (nI (p + 1))) 1 (nI (q1))) 3 (nI a)) 1 (nI (q1 + 1))) 1 (nI q2)) 4 (nI b), e, ?_, ?_, ?_⟩
          · simp [va_up]
          · simp [va_up]
          · exact fun _ => ⟨fun _ => by simp [va_up], fun _ => by simp [va_up]⟩
        | none =>
          rw [hF] at h3
          dsimp only at h3
          have er : rdO (gT T l) p = (false, q1 + 1, 0, 0) := by
            unfold rdO
            simp only [t100, t102, t108, t109, t110, t114, t118, t119, ↓reduceIte, twO, hF1, hg, hF]
          have e : rn 82 0 [some (.ref (S + 108))] [] C = some (some (.int 0), sI C (S + 108) (va_up (va_up (va_up (va_up (va_up (va_up r0 2 (gT T l p)) 1 (nI (p + 1))) 1 (nI (q1))) 3 (nI a)) 1 (nI (q1 + 1))) 4 (-6))) := by
            simp only [t82_0, t82_1, t82_2, t82_5, t82_6, t82_9, t82_12, t82_15, t82_16, t82_19, t82_112, t82_113, t82_114, t82_117, t82_120, t82_123, t82_124, t82_127, t82_130, t82_131, t82_133, t82_136, t82_139, t82_140, t82_143, t82_146, t82_147, t82_150, t82_151, t82_152, t82_153, t82_154, t82_157, t82_160, t82_163, t82_164, t82_167, t82_170, t82_171, t82_173, t82_176, t82_179, t82_180, t82_183, t82_186, t82_187, t82_190, t82_191, t82_192, t82_193, t82_194, t82_197, t82_200, t82_203, t82_204, t82_207, t82_210, t82_211, t82_214, t82_215, t82_216, t82_217, t82_218, t82_221, t82_224, t82_227, t82_228, t82_231, t82_234, t82_235, t82_238, t82_239, t82_240, t82_241, t82_242, t82_245, t82_248, t82_251, t82_252, t82_255, t82_258, t82_259, t82_261, t82_264, t82_267, t82_268, t82_271, t82_274, t82_275, t82_278, t82_279, t82_280, t82_281, t82_282, t82_285, t82_288, t82_289, t82_290, t100, t102, t108, t109, t110, t114, t118, t119, hk, hpd, hkp, ha, va_rf_s, hc, cbn_i, mK_sI, mP_sI, mI_sI, sI_sI, ← hr0, va_up_self, or_true, true_or, not_true_eq_false, not_false_eq_true, one0, ↓reduceIte, hs0, h1, h2, h3]
          rw [er]
          refine ⟨va_up (va_up (va_up (va_up (va_up (va_up r0 2 (gT T l p)) 1 (nI (p + 1))) 1 (nI (q1))) 3 (nI a)) 1 (nI (q1 + 1))) 4 (-6), e, ?_, ?_, ?_⟩
          · simp [va_up]
          · simp [va_up]
          · intro z; cases z
      · rw [if_neg hg] at h2
        have er : rdO (gT T l) p = (false, q1, 0, 0) := by
          unfold rdO
          simp only [t100, t102, t108, t109, t110, t114, t118, t119, ↓reduceIte, twO, hF1, hg]
        have e : rn 82 0 [some (.ref (S + 108))] [] C = some (some (.int 0), sI C (S + 108) (va_up (va_up (va_up (va_up r0 2 (gT T l p)) 1 (nI (p + 1))) 1 (nI (q1))) 3 (nI a))) := by
          simp only [t82_0, t82_1, t82_2, t82_5, t82_6, t82_9, t82_12, t82_15, t82_16, t82_19, t82_112, t82_113, t82_114, t82_117, t82_120, t82_123, t82_124, t82_127, t82_130, t82_131, t82_133, t82_136, t82_139, t82_140, t82_143, t82_146, t82_147, t82_150, t82_151, t82_152, t82_153, t82_154, t82_157, t82_160, t82_163, t82_164, t82_167, t82_170, t82_171, t82_173, t82_176, t82_179, t82_180, t82_183, t82_186, t82_187, t82_190, t82_191, t82_192, t82_193, t82_194, t82_197, t82_200, t82_203, t82_204, t82_207, t82_210, t82_211, t82_214, t82_215, t82_216, t82_217, t82_218, t82_221, t82_224, t82_227, t82_228, t82_231, t82_234, t82_235, t82_238, t82_239, t82_240, t82_241, t82_242, t82_245, t82_248, t82_251, t82_252, t82_255, t82_258, t82_259, t82_261, t82_264, t82_267, t82_268, t82_271, t82_274, t82_275, t82_278, t82_279, t82_280, t82_281, t82_282, t82_285, t82_288, t82_289, t82_290, t100, t102, t108, t109, t110, t114, t118, t119, hk, hpd, hkp, ha, va_rf_s, hc, cbn_i, mK_sI, mP_sI, mI_sI, sI_sI, ← hr0, va_up_self, or_true, true_or, not_true_eq_false, not_false_eq_true, one0, ↓reduceIte, hs0, h1, h2]
        rw [er]
        refine ⟨va_up (va_up (va_up (va_up r0 2 (gT T l p)) 1 (nI (p + 1))) 1 (nI (q1))) 3 (nI a), e, ?_, ?_, ?_⟩
        · simp [va_up]
        · simp [va_up]
        · intro z; cases z
    | none =>
      rw [hF1] at h1
      dsimp only at h1
      have er : rdO (gT T l) p = (false, p + 1, 0, 0) := by
        unfold rdO
        simp only [t100, t102, t108, t109, t110, t114, t118, t119, ↓reduceIte, twO, hF1]
      have e : rn 82 0 [some (.ref (S + 108))] [] C = some (some (.int 0), sI C (S + 108) (va_up (va_up (va_up r0 2 (gT T l p)) 1 (nI (p + 1))) 3 (-6))) := by
        simp only [t82_0, t82_1, t82_2, t82_5, t82_6, t82_9, t82_12, t82_15, t82_16, t82_19, t82_112, t82_113, t82_114, t82_117, t82_120, t82_123, t82_124, t82_127, t82_130, t82_131, t82_133, t82_136, t82_139, t82_140, t82_143, t82_146, t82_147, t82_150, t82_151, t82_152, t82_153, t82_154, t82_157, t82_160, t82_163, t82_164, t82_167, t82_170, t82_171, t82_173, t82_176, t82_179, t82_180, t82_183, t82_186, t82_187, t82_190, t82_191, t82_192, t82_193, t82_194, t82_197, t82_200, t82_203, t82_204, t82_207, t82_210, t82_211, t82_214, t82_215, t82_216, t82_217, t82_218, t82_221, t82_224, t82_227, t82_228, t82_231, t82_234, t82_235, t82_238, t82_239, t82_240, t82_241, t82_242, t82_245, t82_248, t82_251, t82_252, t82_255, t82_258, t82_259, t82_261, t82_264, t82_267, t82_268, t82_271, t82_274, t82_275, t82_278, t82_279, t82_280, t82_281, t82_282, t82_285, t82_288, t82_289, t82_290, t100, t102, t108, t109, t110, t114, t118, t119, hk, hpd, hkp, ha, va_rf_s, hc, cbn_i, mK_sI, mP_sI, mI_sI, sI_sI, ← hr0, va_up_self, or_true, true_or, not_true_eq_false, not_false_eq_true, one0, ↓reduceIte, hs0, h1]
      rw [er]
      refine ⟨va_up (va_up (va_up r0 2 (gT T l p)) 1 (nI (p + 1))) 3 (-6), e, ?_, ?_, ?_⟩
      · simp [va_up]
      · simp [va_up]
      · intro z; cases z
  by_cases n114 : gT T l p = 114
  · have hx := n114
    have t100 : (gT T l p = 100) = False := by rw [hx]; decide
    have t102 : (gT T l p = 102) = False := by rw [hx]; decide
    have t108 : (gT T l p = 108) = False := by rw [hx]; decide
    have t109 : (gT T l p = 109) = False := by rw [hx]; decide
    have t110 : (gT T l p = 110) = False := by rw [hx]; decide
    have t114 : (gT T l p = 114) = True := by rw [hx]; decide
    have t118 : (gT T l p = 118) = False := by rw [hx]; decide
    have t119 : (gT T l p = 119) = False := by rw [hx]; decide
    have er : rdO (gT T l) p = (true, p + 1, 0, 0) := by
      unfold rdO
      simp only [t100, t102, t108, t109, t110, t114, t118, t119, ↓reduceIte]
    have e : rn 82 0 [some (.ref (S + 108))] [] C = some (some (.int 1), sI C (S + 108) (va_up (va_up r0 2 (gT T l p)) 1 (nI (p + 1)))) := by
      simp only [t82_0, t82_1, t82_2, t82_5, t82_6, t82_9, t82_12, t82_15, t82_16, t82_19, t82_112, t82_113, t82_114, t82_117, t82_120, t82_123, t82_124, t82_127, t82_130, t82_131, t82_133, t82_136, t82_139, t82_140, t82_143, t82_146, t82_147, t82_150, t82_151, t82_152, t82_153, t82_154, t82_157, t82_160, t82_163, t82_164, t82_167, t82_170, t82_171, t82_173, t82_176, t82_179, t82_180, t82_183, t82_186, t82_187, t82_190, t82_191, t82_192, t82_193, t82_194, t82_197, t82_200, t82_203, t82_204, t82_207, t82_210, t82_211, t82_214, t82_215, t82_216, t82_217, t82_218, t82_221, t82_224, t82_227, t82_228, t82_231, t82_234, t82_235, t82_238, t82_239, t82_240, t82_241, t82_242, t82_245, t82_248, t82_251, t82_252, t82_255, t82_258, t82_259, t82_261, t82_264, t82_267, t82_268, t82_271, t82_274, t82_275, t82_278, t82_279, t82_280, t82_281, t82_282, t82_285, t82_288, t82_289, t82_290, t100, t102, t108, t109, t110, t114, t118, t119, hk, hpd, hkp, ha, va_rf_s, hc, cbn_i, mK_sI, mP_sI, mI_sI, sI_sI, ← hr0, va_up_self, or_true, true_or, not_true_eq_false, not_false_eq_true, one0, ↓reduceIte, hs0]
    rw [er]
    refine ⟨va_up (va_up r0 2 (gT T l p)) 1 (nI (p + 1)), e, ?_, ?_, ?_⟩
    · simp [va_up]
    · simp [va_up]
    · exact fun _ => ⟨fun z => absurd hx z, fun z => absurd z (by rw [hx]; unfold usB; decide)⟩
  by_cases n118 : gT T l p = 118
  · have hx := n118
    have t100 : (gT T l p = 100) = False := by rw [hx]; decide
    have t102 : (gT T l p = 102) = False := by rw [hx]; decide
    have t108 : (gT T l p = 108) = False := by rw [hx]; decide
    have t109 : (gT T l p = 109) = False := by rw [hx]; decide
    have t110 : (gT T l p = 110) = False := by rw [hx]; decide
    have t114 : (gT T l p = 114) = False := by rw [hx]; decide
    have t118 : (gT T l p = 118) = True := by rw [hx]; decide
    have t119 : (gT T l p = 119) = False := by rw [hx]; decide
    have h1 := c_file1' h (f := va_up (va_up r0 2 (gT T l p)) 1 (nI (p + 1))) (p := p + 1) (by omega) (by simp [va_up])
    cases hF1 : isF (gT T l (p + 1) - 97) with
    | true =>
      rw [if_pos hF1] at h1
      have hv1 := fl_n hF1
      have h2 := c_sign' h (f := va_up (va_up (va_up (va_up r0 2 (gT T l p)) 1 (nI (p + 1))) 1 (nI (p + 1 + 1))) 3 (gT T l (p + 1) - 97)) (p := p + 1 + 1) (by omega) (by simp [va_up]) 47
      by_cases hg : gT T l (p + 1 + 1) = 47
      · rw [if_pos hg] at h2
        have h3 := c_file2' h (f := va_up (va_up (va_up (va_up (va_up r0 2 (gT T l p)) 1 (nI (p + 1))) 1 (nI (p + 1 + 1))) 3 (gT T l (p + 1) - 97)) 1 (nI (p + 1 + 1 + 1))) (p := p + 1 + 1 + 1) (by omega) (by simp [va_up])
        cases hF : isF (gT T l (p + 1 + 1 + 1) - 97) with
        | true =>
          rw [if_pos hF] at h3
          have hv2 := fl_n hF
          have er : rdO (gT T l) p = (true, p + 1 + 1 + 1 + 1, (gT T l (p + 1) - 97).toNatClampNeg, (gT T l (p + 1 + 1 + 1) - 97).toNatClampNeg) := by
            unfold rdO
            simp only [t100, t102, t108, t109, t110, t114, t118, t119, ↓reduceIte, twO, rdF, hF1, hg, hF, rdF]
          have e : rn 82 0 [some (.ref (S + 108))] [] C = some (some (.int 1), sI C (S + 108) (va_up (va_up (va_up (va_up (va_up (va_up (va_up r0 2 (gT T l p)) 1 (nI (p + 1))) 1 (nI (p + 1 + 1))) 3 (gT T l (p + 1) - 97)) 1 (nI (p + 1 + 1 + 1))) 1 (nI (p + 1 + 1 + 1 + 1))) 4 (gT T l (p + 1 + 1 + 1) - 97))) := by
            simp only [t82_0, t82_1, t82_2, t82_5, t82_6, t82_9, t82_12, t82_15, t82_16, t82_19, t82_112, t82_113, t82_114, t82_117, t82_120, t82_123, t82_124, t82_127, t82_130, t82_131, t82_133, t82_136, t82_139, t82_140, t82_143, t82_146, t82_147, t82_150, t82_151, t82_152, t82_153, t82_154, t82_157, t82_160, t82_163, t82_164, t82_167, t82_170, t82_171, t82_173, t82_176, t82_179, t82_180, t82_183, t82_186, t82_187, t82_190, t82_191, t82_192, t82_193, t82_194, t82_197, t82_200, t82_203, t82_204, t82_207, t82_210, t82_211, t82_214, t82_215, t82_216, t82_217, t82_218, t82_221, t82_224, t82_227, t82_228, t82_231, t82_234, t82_235, t82_238, t82_239, t82_240, t82_241, t82_242, t82_245, t82_248, t82_251, t82_252, t82_255, t82_258, t82_259, t82_261, t82_264, t82_267, t82_268, t82_271, t82_274, t82_275, t82_278, t82_279, t82_280, t82_281, t82_282, t82_285, t82_288, t82_289, t82_290, t100, t102, t108, t109, t110, t114, t118, t119, hk, hpd, hkp, ha, va_rf_s, hc, cbn_i, mK_sI, mP_sI, mI_sI, sI_sI, ← hr0, va_up_self, or_true, true_or, not_true_eq_false, not_false_eq_true, one0, ↓reduceIte, hs0, h1, h2, h3]
          rw [er]
          refine ⟨va_up (va_up (va_up (va_up (va_up (va_up (va_up r0 2 (gT T l p)) 1 (nI (p + 1))) 1 (nI (p + 1 + 1))) 3 (gT T l (p + 1) - 97)) 1 (nI (p + 1 + 1 + 1))) 1 (nI (p + 1 + 1 + 1 + 1))) 4 (gT T l (p + 1 + 1 + 1) - 97), e, ?_, ?_, ?_⟩
          · simp [va_up]
          · simp [va_up]
          · exact fun _ => ⟨fun _ => by simp [va_up, hv1], fun _ => by simp [va_up, hv2]⟩
        | false =>
          rw [if_neg (by rw [hF]; decide)] at h3
          have er : rdO (gT T l) p = (false, p + 1 + 1 + 1, 0, 0) := by
            unfold rdO
            simp only [t100, t102, t108, t109, t110, t114, t118, t119, ↓reduceIte, twO, rdF, hF1, hg, hF, rdF, Bool.false_eq_true]
          have e : rn 82 0 [some (.ref (S + 108))] [] C = some (some (.int 0), sI C (S + 108) (va_up (va_up (va_up (va_up (va_up (va_up r0 2 (gT T l p)) 1 (nI (p + 1))) 1 (nI (p + 1 + 1))) 3 (gT T l (p + 1) - 97)) 1 (nI (p + 1 + 1 + 1))) 4 (-6))) := by
            simp only [t82_0, t82_1, t82_2, t82_5, t82_6, t82_9, t82_12, t82_15, t82_16, t82_19, t82_112, t82_113, t82_114, t82_117, t82_120, t82_123, t82_124, t82_127, t82_130, t82_131, t82_133, t82_136, t82_139, t82_140, t82_143, t82_146, t82_147, t82_150, t82_151, t82_152, t82_153, t82_154, t82_157, t82_160, t82_163, t82_164, t82_167, t82_170, t82_171, t82_173, t82_176, t82_179, t82_180, t82_183, t82_186, t82_187, t82_190, t82_191, t82_192, t82_193, t82_194, t82_197, t82_200, t82_203, t82_204, t82_207, t82_210, t82_211, t82_214, t82_215, t82_216, t82_217, t82_218, t82_221, t82_224, t82_227, t82_228, t82_231, t82_234, t82_235, t82_238, t82_239, t82_240, t82_241, t82_242, t82_245, t82_248, t82_251, t82_252, t82_255, t82_258, t82_259, t82_261, t82_264, t82_267, t82_268, t82_271, t82_274, t82_275, t82_278, t82_279, t82_280, t82_281, t82_282, t82_285, t82_288, t82_289, t82_290, t100, t102, t108, t109, t110, t114, t118, t119, hk, hpd, hkp, ha, va_rf_s, hc, cbn_i, mK_sI, mP_sI, mI_sI, sI_sI, ← hr0, va_up_self, or_true, true_or, not_true_eq_false, not_false_eq_true, one0, ↓reduceIte, hs0, h1, h2, h3]
          rw [er]
          refine ⟨va_up (va_up (va_up (va_up (va_up (va_up r0 2 (gT T l p)) 1 (nI (p + 1))) 1 (nI (p + 1 + 1))) 3 (gT T l (p + 1) - 97)) 1 (nI (p + 1 + 1 + 1))) 4 (-6), e, ?_, ?_, ?_⟩
          · simp [va_up]
          · simp [va_up]
          · intro z; cases z
      · rw [if_neg hg] at h2
        have er : rdO (gT T l) p = (false, p + 1 + 1, 0, 0) := by
          unfold rdO
          simp only [t100, t102, t108, t109, t110, t114, t118, t119, ↓reduceIte, twO, rdF, hF1, hg]
        have e : rn 82 0 [some (.ref (S + 108))] [] C = some (some (.int 0), sI C (S + 108) (va_up (va_up (va_up (va_up r0 2 (gT T l p)) 1 (nI (p + 1))) 1 (nI (p + 1 + 1))) 3 (gT T l (p + 1) - 97))) := by
          simp only [t82_0, t82_1, t82_2, t82_5, t82_6, t82_9, t82_12, t82_15, t82_16, t82_19, t82_112, t82_113, t82_114, t82_117, t82_120, t82_123, t82_124, t82_127, t82_130, t82_131, t82_133, t82_136, t82_139, t82_140, t82_143, t82_146, t82_147, t82_150, t82_151, t82_152, t82_153, t82_154, t82_157, t82_160, t82_163, t82_164, t82_167, t82_170, t82_171, t82_173, t82_176, t82_179, t82_180, t82_183, t82_186, t82_187, t82_190, t82_191, t82_192, t82_193, t82_194, t82_197, t82_200, t82_203, t82_204, t82_207, t82_210, t82_211, t82_214, t82_215, t82_216, t82_217, t82_218, t82_221, t82_224, t82_227, t82_228, t82_231, t82_234, t82_235, t82_238, t82_239, t82_240, t82_241, t82_242, t82_245, t82_248, t82_251, t82_252, t82_255, t82_258, t82_259, t82_261, t82_264, t82_267, t82_268, t82_271, t82_274, t82_275, t82_278, t82_279, t82_280, t82_281, t82_282, t82_285, t82_288, t82_289, t82_290, t100, t102, t108, t109, t110, t114, t118, t119, hk, hpd, hkp, ha, va_rf_s, hc, cbn_i, mK_sI, mP_sI, mI_sI, sI_sI, ← hr0, va_up_self, or_true, true_or, not_true_eq_false, not_false_eq_true, one0, ↓reduceIte, hs0, h1, h2]
        rw [er]
        refine ⟨va_up (va_up (va_up (va_up r0 2 (gT T l p)) 1 (nI (p + 1))) 1 (nI (p + 1 + 1))) 3 (gT T l (p + 1) - 97), e, ?_, ?_, ?_⟩
        · simp [va_up]
        · simp [va_up]
        · intro z; cases z
    | false =>
      rw [if_neg (by rw [hF1]; decide)] at h1
      have er : rdO (gT T l) p = (false, p + 1, 0, 0) := by
        unfold rdO
        simp only [t100, t102, t108, t109, t110, t114, t118, t119, ↓reduceIte, twO, rdF, hF1, Bool.false_eq_true]
      have e : rn 82 0 [some (.ref (S + 108))] [] C = some (some (.int 0), sI C (S + 108) (va_up (va_up (va_up r0 2 (gT T l p)) 1 (nI (p + 1))) 3 (-6))) := by
        simp only [t82_0, t82_1, t82_2, t82_5, t82_6, t82_9, t82_12, t82_15, t82_16, t82_19, t82_112, t82_113, t82_114, t82_117, t82_120, t82_123, t82_124, t82_127, t82_130, t82_131, t82_133, t82_136, t82_139, t82_140, t82_143, t82_146, t82_147, t82_150, t82_151, t82_152, t82_153, t82_154, t82_157, t82_160, t82_163, t82_164, t82_167, t82_170, t82_171, t82_173, t82_176, t82_179, t82_180, t82_183, t82_186, t82_187, t82_190, t82_191, t82_192, t82_193, t82_194, t82_197, t82_200, t82_203, t82_204, t82_207, t82_210, t82_211, t82_214, t82_215, t82_216, t82_217, t82_218, t82_221, t82_224, t82_227, t82_228, t82_231, t82_234, t82_235, t82_238, t82_239, t82_240, t82_241, t82_242, t82_245, t82_248, t82_251, t82_252, t82_255, t82_258, t82_259, t82_261, t82_264, t82_267, t82_268, t82_271, t82_274, t82_275, t82_278, t82_279, t82_280, t82_281, t82_282, t82_285, t82_288, t82_289, t82_290, t100, t102, t108, t109, t110, t114, t118, t119, hk, hpd, hkp, ha, va_rf_s, hc, cbn_i, mK_sI, mP_sI, mI_sI, sI_sI, ← hr0, va_up_self, or_true, true_or, not_true_eq_false, not_false_eq_true, one0, ↓reduceIte, hs0, h1]
      rw [er]
      refine ⟨va_up (va_up (va_up r0 2 (gT T l p)) 1 (nI (p + 1))) 3 (-6), e, ?_, ?_, ?_⟩
      · simp [va_up]
      · simp [va_up]
      · intro z; cases z
  by_cases n119 : gT T l p = 119
  · have hx := n119
    have t100 : (gT T l p = 100) = False := by rw [hx]; decide
    have t102 : (gT T l p = 102) = False := by rw [hx]; decide
    have t108 : (gT T l p = 108) = False := by rw [hx]; decide
    have t109 : (gT T l p = 109) = False := by rw [hx]; decide
    have t110 : (gT T l p = 110) = False := by rw [hx]; decide
    have t114 : (gT T l p = 114) = False := by rw [hx]; decide
    have t118 : (gT T l p = 118) = False := by rw [hx]; decide
    have t119 : (gT T l p = 119) = True := by rw [hx]; decide
    have h1 := c_file1' h (f := va_up (va_up r0 2 (gT T l p)) 1 (nI (p + 1))) (p := p + 1) (by omega) (by simp [va_up])
    cases hF1 : isF (gT T l (p + 1) - 97) with
    | true =>
      rw [if_pos hF1] at h1
      have hv1 := fl_n hF1
      have h2 := c_sign' h (f := va_up (va_up (va_up (va_up r0 2 (gT T l p)) 1 (nI (p + 1))) 1 (nI (p + 1 + 1))) 3 (gT T l (p + 1) - 97)) (p := p + 1 + 1) (by omega) (by simp [va_up]) 61
      by_cases hg : gT T l (p + 1 + 1) = 61
      · rw [if_pos hg] at h2
        have h3 := c_num2' h (f := va_up (va_up (va_up (va_up (va_up r0 2 (gT T l p)) 1 (nI (p + 1))) 1 (nI (p + 1 + 1))) 3 (gT T l (p + 1) - 97)) 1 (nI (p + 1 + 1 + 1))) (p := p + 1 + 1 + 1) (by omega) (by simp [va_up])
        cases hF : rdN (gT T l) (p + 1 + 1 + 1) with
        | some r =>
          obtain ⟨b, q2⟩ := r
          rw [hF] at h3
          dsimp only at h3
          have er : rdO (gT T l) p = (true, q2, (gT T l (p + 1) - 97).toNatClampNeg, b) := by
            unfold rdO
            simp only [t100, t102, t108, t109, t110, t114, t118, t119, ↓reduceIte, twO, rdF, hF1, hg, hF]
          have e : rn 82 0 [some (.ref (S + 108))] [] C = some (some (.int 1), sI C (S + 108) (va_up (va_up (va_up (va_up (va_up (va_up (va_up r0 2 (gT T l p)) 1 (nI (p + 1))) 1 (nI (p + 1 + 1))) 3 (gT T l (p + 1) - 97)) 1 (nI (p + 1 + 1 + 1))) 1 (nI q2)) 4 (nI b))) := by
            simp only [t82_0, t82_1, t82_2, t82_5, t82_6, t82_9, t82_12, t82_15, t82_16, t82_19, t82_112, t82_113, t82_114, t82_117, t82_120, t82_123, t82_124, t82_127, t82_130, t82_131, t82_133, t82_136, t82_139, t82_140, t82_143, t82_146, t82_147, t82_150, t82_151, t82_152, t82_153, t82_154, t82_157, t82_160, t82_163, t82_164, t82_167, t82_170, t82_171, t82_173, t82_176, t82_179, t82_180, t82_183, t82_186, t82_187, t82_190, t82_191, t82_192, t82_193, t82_194, t82_197, t82_200, t82_203, t82_204, t82_207, t82_210, t82_211, t82_214, t82_215, t82_216, t82_217, t82_218, t82_221, t82_224, t82_227, t82_228, t82_231, t82_234, t82_235, t82_238, t82_239, t82_240, t82_241, t82_242, t82_245, t82_248, t82_251, t82_252, t82_255, t82_258, t82_259, t82_261, t82_264, t82_267, t82_268, t82_271, t82_274, t82_275, t82_278, t82_279, t82_280, t82_281, t82_282, t82_285, t82_288, t82_289, t82_290, t100, t102, t108, t109, t110, t114, t118, t119, hk, hpd, hkp, ha, va_rf_s, hc, cbn_i, mK_sI, mP_sI, mI_sI, sI_sI, ← hr0, va_up_self, or_true, true_or, not_true_eq_false, not_false_eq_true, one0, ↓reduceIte, hs0, h1, h2, h3]
          rw [er]
          refine ⟨va_up (va_up (va_up (va_up (va_up (va_up (va_up r0 2 (gT T l p)) 1 (nI (p + 1))) 1 (nI (p + 1 + 1))) 3 (gT T l (p + 1) - 97)) 1 (nI (p + 1 + 1 + 1))) 1 (nI q2)) 4 (nI b), e, ?_, ?_, ?_⟩
          · simp [va_up]
          · simp [va_up]
          · exact fun _ => ⟨fun _ => by simp [va_up, hv1], fun _ => by simp [va_up]⟩
        | none =>
          rw [hF] at h3
          dsimp only at h3
          have er : rdO (gT T l) p = (false, p + 1 + 1 + 1, 0, 0) := by
            unfold rdO
            simp only [t100, t102, t108, t109, t110, t114, t118, t119, ↓reduceIte, twO, rdF, hF1, hg, hF]
          have e : rn 82 0 [some (.ref (S + 108))] [] C = some (some (.int 0), sI C (S + 108) (va_up (va_up (va_up (va_up (va_up (va_up r0 2 (gT T l p)) 1 (nI (p + 1))) 1 (nI (p + 1 + 1))) 3 (gT T l (p + 1) - 97)) 1 (nI (p + 1 + 1 + 1))) 4 (-6))) := by
            simp only [t82_0, t82_1, t82_2, t82_5, t82_6, t82_9, t82_12, t82_15, t82_16, t82_19, t82_112, t82_113, t82_114, t82_117, t82_120, t82_123, t82_124, t82_127, t82_130, t82_131, t82_133, t82_136, t82_139, t82_140, t82_143, t82_146, t82_147, t82_150, t82_151, t82_152, t82_153, t82_154, t82_157, t82_160, t82_163, t82_164, t82_167, t82_170, t82_171, t82_173, t82_176, t82_179, t82_180, t82_183, t82_186, t82_187, t82_190, t82_191, t82_192, t82_193, t82_194, t82_197, t82_200, t82_203, t82_204, t82_207, t82_210, t82_211, t82_214, t82_215, t82_216, t82_217, t82_218, t82_221, t82_224, t82_227, t82_228, t82_231, t82_234, t82_235, t82_238, t82_239, t82_240, t82_241, t82_242, t82_245, t82_248, t82_251, t82_252, t82_255, t82_258, t82_259, t82_261, t82_264, t82_267, t82_268, t82_271, t82_274, t82_275, t82_278, t82_279, t82_280, t82_281, t82_282, t82_285, t82_288, t82_289, t82_290, t100, t102, t108, t109, t110, t114, t118, t119, hk, hpd, hkp, ha, va_rf_s, hc, cbn_i, mK_sI, mP_sI, mI_sI, sI_sI, ← hr0, va_up_self, or_true, true_or, not_true_eq_false, not_false_eq_true, one0, ↓reduceIte, hs0, h1, h2, h3]
          rw [er]
          refine ⟨va_up (va_up (va_up (va_up (va_up (va_up r0 2 (gT T l p)) 1 (nI (p + 1))) 1 (nI (p + 1 + 1))) 3 (gT T l (p + 1) - 97)) 1 (nI (p + 1 + 1 + 1))) 4 (-6), e, ?_, ?_, ?_⟩
          · simp [va_up]
          · simp [va_up]
          · intro z; cases z
      · rw [if_neg hg] at h2
        have er : rdO (gT T l) p = (false, p + 1 + 1, 0, 0) := by
          unfold rdO
          simp only [t100, t102, t108, t109, t110, t114, t118, t119, ↓reduceIte, twO, rdF, hF1, hg]
        have e : rn 82 0 [some (.ref (S + 108))] [] C = some (some (.int 0), sI C (S + 108) (va_up (va_up (va_up (va_up r0 2 (gT T l p)) 1 (nI (p + 1))) 1 (nI (p + 1 + 1))) 3 (gT T l (p + 1) - 97))) := by
          simp only [t82_0, t82_1, t82_2, t82_5, t82_6, t82_9, t82_12, t82_15, t82_16, t82_19, t82_112, t82_113, t82_114, t82_117, t82_120, t82_123, t82_124, t82_127, t82_130, t82_131, t82_133, t82_136, t82_139, t82_140, t82_143, t82_146, t82_147, t82_150, t82_151, t82_152, t82_153, t82_154, t82_157, t82_160, t82_163, t82_164, t82_167, t82_170, t82_171, t82_173, t82_176, t82_179, t82_180, t82_183, t82_186, t82_187, t82_190, t82_191, t82_192, t82_193, t82_194, t82_197, t82_200, t82_203, t82_204, t82_207, t82_210, t82_211, t82_214, t82_215, t82_216, t82_217, t82_218, t82_221, t82_224, t82_227, t82_228, t82_231, t82_234, t82_235, t82_238, t82_239, t82_240, t82_241, t82_242, t82_245, t82_248, t82_251, t82_252, t82_255, t82_258, t82_259, t82_261, t82_264, t82_267, t82_268, t82_271, t82_274, t82_275, t82_278, t82_279, t82_280, t82_281, t82_282, t82_285, t82_288, t82_289, t82_290, t100, t102, t108, t109, t110, t114, t118, t119, hk, hpd, hkp, ha, va_rf_s, hc, cbn_i, mK_sI, mP_sI, mI_sI, sI_sI, ← hr0, va_up_self, or_true, true_or, not_true_eq_false, not_false_eq_true, one0, ↓reduceIte, hs0, h1, h2]
        rw [er]
        refine ⟨va_up (va_up (va_up (va_up r0 2 (gT T l p)) 1 (nI (p + 1))) 1 (nI (p + 1 + 1))) 3 (gT T l (p + 1) - 97), e, ?_, ?_, ?_⟩
        · simp [va_up]
        · simp [va_up]
        · intro z; cases z
    | false =>
      rw [if_neg (by rw [hF1]; decide)] at h1
      have er : rdO (gT T l) p = (false, p + 1, 0, 0) := by
        unfold rdO
        simp only [t100, t102, t108, t109, t110, t114, t118, t119, ↓reduceIte, twO, rdF, hF1, Bool.false_eq_true]
      have e : rn 82 0 [some (.ref (S + 108))] [] C = some (some (.int 0), sI C (S + 108) (va_up (va_up (va_up r0 2 (gT T l p)) 1 (nI (p + 1))) 3 (-6))) := by
        simp only [t82_0, t82_1, t82_2, t82_5, t82_6, t82_9, t82_12, t82_15, t82_16, t82_19, t82_112, t82_113, t82_114, t82_117, t82_120, t82_123, t82_124, t82_127, t82_130, t82_131, t82_133, t82_136, t82_139, t82_140, t82_143, t82_146, t82_147, t82_150, t82_151, t82_152, t82_153, t82_154, t82_157, t82_160, t82_163, t82_164, t82_167, t82_170, t82_171, t82_173, t82_176, t82_179, t82_180, t82_183, t82_186, t82_187, t82_190, t82_191, t82_192, t82_193, t82_194, t82_197, t82_200, t82_203, t82_204, t82_207, t82_210, t82_211, t82_214, t82_215, t82_216, t82_217, t82_218, t82_221, t82_224, t82_227, t82_228, t82_231, t82_234, t82_235, t82_238, t82_239, t82_240, t82_241, t82_242, t82_245, t82_248, t82_251, t82_252, t82_255, t82_258, t82_259, t82_261, t82_264, t82_267, t82_268, t82_271, t82_274, t82_275, t82_278, t82_279, t82_280, t82_281, t82_282, t82_285, t82_288, t82_289, t82_290, t100, t102, t108, t109, t110, t114, t118, t119, hk, hpd, hkp, ha, va_rf_s, hc, cbn_i, mK_sI, mP_sI, mI_sI, sI_sI, ← hr0, va_up_self, or_true, true_or, not_true_eq_false, not_false_eq_true, one0, ↓reduceIte, hs0, h1]
      rw [er]
      refine ⟨va_up (va_up (va_up r0 2 (gT T l p)) 1 (nI (p + 1))) 3 (-6), e, ?_, ?_, ?_⟩
      · simp [va_up]
      · simp [va_up]
      · intro z; cases z
  have er : rdO (gT T l) p = (false, p, 0, 0) := by
    unfold rdO
    simp only [n100, n102, n108, n109, n110, n114, n118, n119, ↓reduceIte]
  have e : rn 82 0 [some (.ref (S + 108))] [] C = some (some (.int 0), sI C (S + 108) (va_up r0 2 (gT T l p))) := by
    simp only [t82_0, t82_1, t82_2, t82_5, t82_6, t82_9, t82_12, t82_15, t82_16, t82_19, t82_112, t82_113, t82_114, t82_117, t82_120, t82_123, t82_124, t82_127, t82_130, t82_131, t82_133, t82_136, t82_139, t82_140, t82_143, t82_146, t82_147, t82_150, t82_151, t82_152, t82_153, t82_154, t82_157, t82_160, t82_163, t82_164, t82_167, t82_170, t82_171, t82_173, t82_176, t82_179, t82_180, t82_183, t82_186, t82_187, t82_190, t82_191, t82_192, t82_193, t82_194, t82_197, t82_200, t82_203, t82_204, t82_207, t82_210, t82_211, t82_214, t82_215, t82_216, t82_217, t82_218, t82_221, t82_224, t82_227, t82_228, t82_231, t82_234, t82_235, t82_238, t82_239, t82_240, t82_241, t82_242, t82_245, t82_248, t82_251, t82_252, t82_255, t82_258, t82_259, t82_261, t82_264, t82_267, t82_268, t82_271, t82_274, t82_275, t82_278, t82_279, t82_280, t82_281, t82_282, t82_285, t82_288, t82_289, t82_290, n100, n102, n108, n109, n110, n114, n118, n119, hk, hpd, hkp, ha, va_rf_s, hc, cbn_i, mK_sI, mP_sI, mI_sI, sI_sI, ← hr0, va_up_self, or_true, true_or, ↓reduceIte]
  rw [er]
  refine ⟨va_up r0 2 (gT T l p), e, ?_, ?_, ?_⟩
  · rw [va_up_ne _ _ (by decide), hr0]; exact ha
  · simp [va_up]
  · intro z; cases z
