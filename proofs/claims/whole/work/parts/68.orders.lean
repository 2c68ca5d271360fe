/-! an order carried out -/
theorem st_write {C : SM} {s n R : Nat} {w : Nat → Int32} (hC : StAt C s) (hS : SR C s w n R) (hB : R < 2147483648) (kd : Nat) (f a d v : Int32) (hk : (kd = 0 ∧ d = a ∧ v = 0) ∨ (kd = 2 ∧ d = a ∧ v = 0) ∨ (kd = 1 ∧ d = 0 ∧ v = a) ∨ (kd = 3 ∧ d = 0 ∧ v = 0 ∧ a = -6)) :
    ∃ e C', cl 18 [.ref s, .int (nI kd), .int f, .int a] C = some (some (.int e), C') ∧ Fr C C' (s + 1) (s + 13) ∧ StepR C C' s w e (fun M m => cl 103 [.ref m, .int f, .int d, .int v] M) (fun M m => cl 108 [.ref m, .int (nI kd), .int f, .int a] M) R := by
  have n40 := hS.1.2.1
  have hw := c_writeEntry (M := C) (s := s) hC hS.1.1 n40 (nI kd) f a
  have k01 : ((1 : Int32) = 0) = False := by decide
  have k20 : ((2 : Int32) = 0) = False := by decide
  have k30 : ((3 : Int32) = 0) = False := by decide
  have k12 : ((1 : Int32) = 2) = False := by decide
  have k32 : ((3 : Int32) = 2) = False := by decide
  have k21 : ((2 : Int32) = 1) = False := by decide
  have k31 : ((3 : Int32) = 1) = False := by decide
  have k00 : ((0 : Int32) = 1) = False := by decide
  have l00 : ((0 : Int32) < 0) = False := by decide
  have l15 : ((15 : Int32) < 0) = False := by decide
  have l99 : ((999 : Int32) < 0) = False := by decide
  have hcl : cl 18 [.ref s, .int (nI kd), .int f, .int a] C = if (f < 1 ∨ 15 < f) ∨ (d < 0 ∨ 15 < d) then some (some (.int (-1)), C) else if v < 0 ∨ 999 < v then some (some (.int (-2)), C) else if n = 40 then some (some (.int (-4)), C) else some (some (.int (nI n)), lgApp C (s + 1) n (nI kd) f a) := by
    rw [hw]
    simp only [r_d, r_f2, r_v]
    rcases hk with ⟨rfl, rfl, rfl⟩ | ⟨rfl, rfl, rfl⟩ | ⟨rfl, rfl, rfl⟩ | ⟨rfl, rfl, rfl, rfl⟩
    · rw [show nI 0 = 0 from rfl]
      by_cases q1 : f < 1 ∨ 15 < f <;> by_cases q2 : d < 0 ∨ 15 < d <;> simp only [q1, q2, k00, l00, l99, true_or, or_true, or_false, false_or, or_self, true_and, false_and, ↓reduceIte]
    · rw [show nI 2 = 2 from rfl]
      by_cases q1 : f < 1 ∨ 15 < f <;> by_cases q2 : d < 0 ∨ 15 < d <;> simp only [q1, q2, k20, k21, l00, l99, true_or, or_true, or_false, false_or, or_self, true_and, false_and, and_self, ↓reduceIte]
    · rw [show nI 1 = 1 from rfl]
      by_cases q1 : f < 1 ∨ 15 < f <;> by_cases q2 : v < 0 ∨ 999 < v <;> simp only [q1, q2, k01, k12, l00, l15, true_or, or_true, or_false, false_or, or_self, true_and, false_and, and_self, ↓reduceIte]
    · rw [show nI 3 = 3 from rfl]
      by_cases q1 : f < 1 ∨ 15 < f <;> simp only [q1, k30, k31, k32, l00, l15, l99, true_or, or_true, or_false, false_or, or_self, true_and, false_and, and_self, ↓reduceIte]
  have hy : ∀ M m, ModAt M m → mI M (m + 1) = w → cl 103 [.ref m, .int f, .int d, .int v] M = some (some (.int (if (f < 1 ∨ 15 < f) ∨ (d < 0 ∨ 15 < d) then -1 else if v < 0 ∨ 999 < v then -2 else if n = 40 then -4 else 0)), M) := fun M m hm hu => c_whyNotWritten hm (by rw [hu]; exact hS.1.2.2.1) n40 f d v
  by_cases q1 : (f < 1 ∨ 15 < f) ∨ (d < 0 ∨ 15 < d)
  · rw [if_pos q1] at hcl
    exact ⟨-1, C, hcl, Fr.refl _ _ _, Or.inl ⟨by decide, rfl, fun M m hm hu => (hy M m hm hu).trans (by rw [if_pos q1])⟩⟩
  · rw [if_neg q1] at hcl
    by_cases q2 : v < 0 ∨ 999 < v
    · rw [if_pos q2] at hcl
      exact ⟨-2, C, hcl, Fr.refl _ _ _, Or.inl ⟨by decide, rfl, fun M m hm hu => (hy M m hm hu).trans (by rw [if_neg q1, if_pos q2])⟩⟩
    · rw [if_neg q2] at hcl
      by_cases q3 : n = 40
      · rw [if_pos q3] at hcl
        exact ⟨-4, C, hcl, Fr.refl _ _ _, Or.inl ⟨by decide, rfl, fun M m hm hu => (hy M m hm hu).trans (by rw [if_neg q1, if_neg q2, if_pos q3])⟩⟩
      · rw [if_neg q3] at hcl
        have q1f : ¬ ((f < 0 ∨ 16 ≤ f) ∨ f = 0) := by rw [r_f]; exact fun z => q1 (Or.inl z)
        have q1d : ¬ (d < 0 ∨ 16 ≤ d) := by rw [r_d]; exact fun z => q1 (Or.inr z)
        obtain ⟨j, hj, rfl⟩ := isF_of (x := f) (by unfold isF; exact decide_eq_true (fun z => q1f (Or.inl z)))
        have j0 : 0 < j := by
          rcases Nat.eq_zero_or_pos j with z | z
          · subst z; exact absurd (Or.inr rfl) q1f
          · exact z
        have ho : okE kd j a := by
          refine ⟨by omega, hj, j0, ?_, ?_⟩
          · intro z
            have : d = a := by
              rcases hk with ⟨_, z, _⟩ | ⟨_, z, _⟩ | ⟨z, _⟩ | ⟨z, _⟩
              · exact z
              · exact z
              · omega
              · omega
            subst this
            unfold isF
            exact decide_eq_true q1d
          · intro z
            have : v = a := by
              rcases hk with ⟨z, _⟩ | ⟨z, _⟩ | ⟨_, _, z⟩ | ⟨z, _⟩
              · omega
              · omega
              · exact z
              · omega
            subst this
            intro z
            subst z
            exact q2 (Or.inl (by decide))
        refine ⟨nI n, lgApp C (s + 1) n (nI kd) (nI j) a, hcl, (Fr_lgApp _ _ _ _ _ _).mono (by omega) (by omega), Or.inr ⟨nI_pos (by omega), fun M m hm hu => ⟨(hy M m hm hu).trans (by rw [if_neg q1, if_neg q2, if_neg q3]), ?_⟩⟩⟩
        have h108 := c_written (M := M) (m := m) (n := n) hm (by rw [hu]; exact hS.1.2.2.1) (by omega) (nI kd) (nI j) a
        rw [hu] at h108
        exact ⟨_, h108, OpF.sI _ _ _, n + 1, R, Nat.le_refl _, by rw [mI_sI, if_pos rfl]; exact ⟨LR_lgApp hS.1 (by omega) ho, RR_lgApp (by omega) hS.2 (by omega) hB⟩⟩
def codeO (c : Int32) : Prop := c = 100 ∨ c = 102 ∨ c = 108 ∨ c = 109 ∨ c = 110 ∨ c = 114 ∨ c = 118 ∨ c = 119
theorem rdO_code {g : Nat → Int32} {p : Nat} (h : (rdO g p).1 = true) : codeO (g p) := by
  unfold rdO at h
  unfold codeO
  split at h
  · rename_i z; exact Or.inl z
  · split at h
    · rename_i z; exact Or.inr (Or.inl z)
    · split at h
      · rename_i z; exact Or.inr (Or.inr (Or.inl z))
      · split at h
        · rename_i z; exact Or.inr (Or.inr (Or.inr (Or.inl z)))
        · split at h
          · rename_i z; exact Or.inr (Or.inr (Or.inr (Or.inr (Or.inl z))))
          · split at h
            · rename_i z; exact Or.inr (Or.inr (Or.inr (Or.inr (Or.inr (Or.inl z)))))
            · split at h
              · rename_i z; exact Or.inr (Or.inr (Or.inr (Or.inr (Or.inr (Or.inr (Or.inl z))))))
              · split at h
                · rename_i z; exact Or.inr (Or.inr (Or.inr (Or.inr (Or.inr (Or.inr (Or.inr z))))))
                · cases h
/-- the reference's part of an order -/
def OrdR (C C' : SM) (S : Nat) (w : Nat → Int32) (c e : Int32) (B : Nat) : Prop :=
  (e < 0 ∧ C' = C ∧ ∀ N m, ModAt N m → mI N (m + 1) = w → mI N m 12 = c → (¬ c = 114 → mI N m 13 = mI C (S + 108) 3) → (usB c → mI N m 14 = mI C (S + 108) 4) → cl 171 [.ref m] N = some (some (.int e), N)) ∨
  (¬ e < 0 ∧ ∀ N m, ModAt N m → mI N (m + 1) = w → mI N m 12 = c → (¬ c = 114 → mI N m 13 = mI C (S + 108) 3) → (usB c → mI N m 14 = mI C (S + 108) 4) → cl 171 [.ref m] N = some (some (.int 0), N) ∧ ∃ N', cl 172 [.ref m] N = some (none, N') ∧ OpF N N' m ∧ ∃ n R, R ≤ B ∧ SR C' (S + 1) (mI N' (m + 1)) n R)
theorem st_order {C : SM} {S sb L n R : Nat} {w : Nat → Int32} {c : Int32} (hS : Stat C S sb L) (hN : SR C (S + 1) w n R) (hB : R + 1 < 2147483648) (hc : mI C (S + 108) 2 = c) (ho : codeO c) : ∃ e C', cl 93 [.ref S] C = some (some (.int e), C') ∧ Fr C C' (S + 2) (S + 14) ∧ OrdR C C' S w c e (R + 1) := by
  obtain ⟨⟨K0, P0, P1, P2, P3, P4, P5, P6⟩, SN, ⟨KH, PH, KR, RG⟩, ⟨KL, SL⟩, ⟨KP, PP, KC⟩, ⟨KD, PD⟩, TQ, TW, MM, ⟨LO1, LO2, LO3, LO4⟩⟩ := hS
  obtain ⟨q1, q2, q3, q4, q5⟩ := id SN
  have one0 : ((1 : Int32) = 0) = False := by decide
  obtain ⟨x, hx⟩ : ∃ x, x = mI C (S + 108) 3 := ⟨_, rfl⟩
  obtain ⟨y, hy⟩ : ∃ y, y = mI C (S + 108) 4 := ⟨_, rfl⟩
  rcases ho with hz | hz | hz | hz | hz | hz | hz | hz
  · have zz := hz
    have t100 : (c = 100) = True := by rw [hz]; decide
    have t102 : (c = 102) = False := by rw [hz]; decide
    have t108 : (c = 108) = False := by rw [hz]; decide
    have t109 : (c = 109) = False := by rw [hz]; decide
    have t110 : (c = 110) = False := by rw [hz]; decide
    have t114 : (c = 114) = False := by rw [hz]; decide
    have t118 : (c = 118) = False := by rw [hz]; decide
    have t119 : (c = 119) = False := by rw [hz]; decide
    obtain ⟨e, C', b1, b2, b3⟩ := st_write (C := C) (s := S + 1) SN hN (by omega) 3 x (-6) 0 0 (Or.inr (Or.inr (Or.inr ⟨rfl, rfl, rfl, rfl⟩)))
    rw [show nI 3 = 3 from rfl] at b1
    have hcl : cl 93 [.ref S] C = some (some (.int e), C') := by
      show rn 93 0 [some (.ref S)] [] C = _
      simp only [t93_0, t93_1, t93_4, t93_7, t93_100, t93_101, t93_104, t93_105, t93_106, t93_109, t93_112, t93_113, t93_116, t93_119, t93_122, t93_123, t93_124, t93_127, t93_128, t93_129, t93_132, t93_135, t93_136, t93_139, t93_142, t93_145, t93_146, t93_147, t93_150, t93_151, t93_152, t93_155, t93_158, t93_159, t93_162, t93_165, t93_168, t93_169, t93_170, t93_173, t93_174, t93_175, t93_178, t93_181, t93_183, t93_186, t93_187, t93_188, t93_191, t93_192, t93_195, t93_198, t93_201, t93_202, t93_203, t93_206, t93_207, t93_210, t93_213, t93_216, t93_217, t93_218, t93_221, t93_222, t93_225, t93_228, t93_229, t93_232, t93_235, t93_238, t93_239, t93_240, t93_243, t93_246, t93_247, t93_250, t93_253, t93_256, t93_257, t93_259, K0, P0, P3, KD, va_rf_s, hc, t100, t102, t108, t109, t110, t114, t118, t119, ← hx, ← hy, q1, q2, q3, q5.1, b1, cbn_i, ↓reduceIte]
    refine ⟨e, C', hcl, b2.mono (by omega) (by omega), ?_⟩
    rcases b3 with ⟨d1, d2, d3⟩ | ⟨d1, d2⟩
    · refine Or.inl ⟨d1, d2, fun N m hm hu h12 h13 h14 => ?_⟩
      have h13 : mI N m 13 = x := (h13 (by rw [hz]; decide)).trans hx.symm
      have w1 := d3 N m hm hu
      show rn 171 0 [some (.ref m)] [] N = _
      simp only [t171_0, t171_1, t171_4, t171_100, t171_101, t171_102, t171_105, t171_106, t171_109, t171_110, t171_113, t171_114, t171_115, t171_116, t171_119, t171_120, t171_121, t171_124, t171_127, t171_128, t171_129, t171_130, t171_133, t171_134, t171_135, t171_138, t171_139, t171_140, t171_141, t171_144, t171_145, t171_148, t171_149, t171_150, t171_151, t171_154, t171_155, t171_158, t171_159, t171_160, t171_161, t171_164, t171_165, t171_168, t171_171, t171_172, t171_173, hm.1, h12, h13, t100, t102, t108, t109, t110, t114, t118, t119, (show cl 103 [.ref m, .int x, .int 0, .int 0] N = _ from w1), cbn_i, ↓reduceIte]
    · refine Or.inr ⟨d1, fun N m hm hu h12 h13 h14 => ?_⟩
      have h13 : mI N m 13 = x := (h13 (by rw [hz]; decide)).trans hx.symm
      obtain ⟨w1, N', w2, w3, n', R', w4, w5⟩ := d2 N m hm hu
      refine ⟨?_, N', ?_, w3, n', R', by omega, w5⟩
      · show rn 171 0 [some (.ref m)] [] N = _
        simp only [t171_0, t171_1, t171_4, t171_100, t171_101, t171_102, t171_105, t171_106, t171_109, t171_110, t171_113, t171_114, t171_115, t171_116, t171_119, t171_120, t171_121, t171_124, t171_127, t171_128, t171_129, t171_130, t171_133, t171_134, t171_135, t171_138, t171_139, t171_140, t171_141, t171_144, t171_145, t171_148, t171_149, t171_150, t171_151, t171_154, t171_155, t171_158, t171_159, t171_160, t171_161, t171_164, t171_165, t171_168, t171_171, t171_172, t171_173, hm.1, h12, h13, t100, t102, t108, t109, t110, t114, t118, t119, (show cl 103 [.ref m, .int x, .int 0, .int 0] N = _ from w1), cbn_i, ↓reduceIte]
      · show rn 172 0 [some (.ref m)] [] N = _
        simp only [t172_0, t172_1, t172_4, t172_100, t172_101, t172_102, t172_103, t172_106, t172_107, t172_110, t172_113, t172_114, t172_117, t172_118, t172_119, t172_120, t172_123, t172_124, t172_127, t172_130, t172_131, t172_134, t172_135, t172_136, t172_137, t172_140, t172_141, t172_144, t172_147, t172_148, t172_151, t172_152, t172_153, t172_154, t172_157, t172_159, t172_162, t172_163, t172_166, t172_167, t172_168, t172_171, t172_172, t172_175, t172_176, t172_179, t172_180, t172_181, t172_184, t172_185, t172_188, t172_189, t172_192, t172_193, t172_194, t172_197, t172_198, t172_201, t172_204, t172_205, t172_208, t172_209, t172_212, t172_213, hm.1, h12, h13, t100, t102, t108, t109, t110, t114, t118, t119, (show cl 108 [.ref m, .int 3, .int x, .int (-6)] N = _ from w2), cbn_i, ↓reduceIte]
  · have zz := hz
    have t100 : (c = 100) = False := by rw [hz]; decide
    have t102 : (c = 102) = True := by rw [hz]; decide
    have t108 : (c = 108) = False := by rw [hz]; decide
    have t109 : (c = 109) = False := by rw [hz]; decide
    have t110 : (c = 110) = False := by rw [hz]; decide
    have t114 : (c = 114) = False := by rw [hz]; decide
    have t118 : (c = 118) = False := by rw [hz]; decide
    have t119 : (c = 119) = False := by rw [hz]; decide
    obtain ⟨e, C', b1, b2, b3⟩ := st_lost (C := C) (s := S + 1) SN hN x true
    have b1x : cl 44 [.ref (S + 1), .int x] C = some (some (.int e), C') := by
      show rn 44 0 [some (.ref (S + 1)), some (.int x)] [] C = _
      simp only [t44_0, t44_1, t44_2, t44_3, t44_6, q1, ↓reduceIte, (show cl 40 [.ref (S + 1), .int x, .int 1] C = _ from b1), cbn_i]
    have hcl : cl 93 [.ref S] C = some (some (.int e), C') := by
      show rn 93 0 [some (.ref S)] [] C = _
      simp only [t93_0, t93_1, t93_4, t93_7, t93_100, t93_101, t93_104, t93_105, t93_106, t93_109, t93_112, t93_113, t93_116, t93_119, t93_122, t93_123, t93_124, t93_127, t93_128, t93_129, t93_132, t93_135, t93_136, t93_139, t93_142, t93_145, t93_146, t93_147, t93_150, t93_151, t93_152, t93_155, t93_158, t93_159, t93_162, t93_165, t93_168, t93_169, t93_170, t93_173, t93_174, t93_175, t93_178, t93_181, t93_183, t93_186, t93_187, t93_188, t93_191, t93_192, t93_195, t93_198, t93_201, t93_202, t93_203, t93_206, t93_207, t93_210, t93_213, t93_216, t93_217, t93_218, t93_221, t93_222, t93_225, t93_228, t93_229, t93_232, t93_235, t93_238, t93_239, t93_240, t93_243, t93_246, t93_247, t93_250, t93_253, t93_256, t93_257, t93_259, K0, P0, P3, KD, va_rf_s, hc, t100, t102, t108, t109, t110, t114, t118, t119, ← hx, ← hy, q1, q2, q3, q5.1, b1x, cbn_i, ↓reduceIte]
    refine ⟨e, C', hcl, b2.mono (by omega) (by omega), ?_⟩
    rcases b3 with ⟨d1, d2, d3⟩ | ⟨d1, d2⟩
    · refine Or.inl ⟨d1, d2, fun N m hm hu h12 h13 h14 => ?_⟩
      have h13 : mI N m 13 = x := (h13 (by rw [hz]; decide)).trans hx.symm
      have w1 := d3 N m hm hu
      show rn 171 0 [some (.ref m)] [] N = _
      simp only [t171_0, t171_1, t171_4, t171_100, t171_101, t171_102, t171_105, t171_106, t171_109, t171_110, t171_113, t171_114, t171_115, t171_116, t171_119, t171_120, t171_121, t171_124, t171_127, t171_128, t171_129, t171_130, t171_133, t171_134, t171_135, t171_138, t171_139, t171_140, t171_141, t171_144, t171_145, t171_148, t171_149, t171_150, t171_151, t171_154, t171_155, t171_158, t171_159, t171_160, t171_161, t171_164, t171_165, t171_168, t171_171, t171_172, t171_173, hm.1, h12, h13, t100, t102, t108, t109, t110, t114, t118, t119, (show cl 127 [.ref m, .int x, .int 0] N = _ from w1), cbn_i, ↓reduceIte]
    · refine Or.inr ⟨d1, fun N m hm hu h12 h13 h14 => ?_⟩
      have h13 : mI N m 13 = x := (h13 (by rw [hz]; decide)).trans hx.symm
      obtain ⟨w1, N', w2, w3, n', R', w4, w5⟩ := d2 N m hm hu
      refine ⟨?_, N', ?_, w3, n', R', by omega, w5⟩
      · show rn 171 0 [some (.ref m)] [] N = _
        simp only [t171_0, t171_1, t171_4, t171_100, t171_101, t171_102, t171_105, t171_106, t171_109, t171_110, t171_113, t171_114, t171_115, t171_116, t171_119, t171_120, t171_121, t171_124, t171_127, t171_128, t171_129, t171_130, t171_133, t171_134, t171_135, t171_138, t171_139, t171_140, t171_141, t171_144, t171_145, t171_148, t171_149, t171_150, t171_151, t171_154, t171_155, t171_158, t171_159, t171_160, t171_161, t171_164, t171_165, t171_168, t171_171, t171_172, t171_173, hm.1, h12, h13, t100, t102, t108, t109, t110, t114, t118, t119, (show cl 127 [.ref m, .int x, .int 0] N = _ from w1), cbn_i, ↓reduceIte]
      · show rn 172 0 [some (.ref m)] [] N = _
        simp only [t172_0, t172_1, t172_4, t172_100, t172_101, t172_102, t172_103, t172_106, t172_107, t172_110, t172_113, t172_114, t172_117, t172_118, t172_119, t172_120, t172_123, t172_124, t172_127, t172_130, t172_131, t172_134, t172_135, t172_136, t172_137, t172_140, t172_141, t172_144, t172_147, t172_148, t172_151, t172_152, t172_153, t172_154, t172_157, t172_159, t172_162, t172_163, t172_166, t172_167, t172_168, t172_171, t172_172, t172_175, t172_176, t172_179, t172_180, t172_181, t172_184, t172_185, t172_188, t172_189, t172_192, t172_193, t172_194, t172_197, t172_198, t172_201, t172_204, t172_205, t172_208, t172_209, t172_212, t172_213, hm.1, h12, h13, t100, t102, t108, t109, t110, t114, t118, t119, (show cl 128 [.ref m, .int x, .int 0] N = _ from w2), cbn_i, ↓reduceIte]
  · have zz := hz
    have t100 : (c = 100) = False := by rw [hz]; decide
    have t102 : (c = 102) = False := by rw [hz]; decide
    have t108 : (c = 108) = True := by rw [hz]; decide
    have t109 : (c = 109) = False := by rw [hz]; decide
    have t110 : (c = 110) = False := by rw [hz]; decide
    have t114 : (c = 114) = False := by rw [hz]; decide
    have t118 : (c = 118) = False := by rw [hz]; decide
    have t119 : (c = 119) = False := by rw [hz]; decide
    obtain ⟨e, C', b1, b2, b3⟩ := st_lost (C := C) (s := S + 1) SN hN x false
    have b1x : cl 39 [.ref (S + 1), .int x] C = some (some (.int e), C') := by
      show rn 39 0 [some (.ref (S + 1)), some (.int x)] [] C = _
      simp only [t39_0, t39_1, t39_2, t39_3, t39_6, q1, ↓reduceIte, (show cl 40 [.ref (S + 1), .int x, .int 0] C = _ from b1), cbn_i]
    have hcl : cl 93 [.ref S] C = some (some (.int e), C') := by
      show rn 93 0 [some (.ref S)] [] C = _
      simp only [t93_0, t93_1, t93_4, t93_7, t93_100, t93_101, t93_104, t93_105, t93_106, t93_109, t93_112, t93_113, t93_116, t93_119, t93_122, t93_123, t93_124, t93_127, t93_128, t93_129, t93_132, t93_135, t93_136, t93_139, t93_142, t93_145, t93_146, t93_147, t93_150, t93_151, t93_152, t93_155, t93_158, t93_159, t93_162, t93_165, t93_168, t93_169, t93_170, t93_173, t93_174, t93_175, t93_178, t93_181, t93_183, t93_186, t93_187, t93_188, t93_191, t93_192, t93_195, t93_198, t93_201, t93_202, t93_203, t93_206, t93_207, t93_210, t93_213, t93_216, t93_217, t93_218, t93_221, t93_222, t93_225, t93_228, t93_229, t93_232, t93_235, t93_238, t93_239, t93_240, t93_243, t93_246, t93_247, t93_250, t93_253, t93_256, t93_257, t93_259, K0, P0, P3, KD, va_rf_s, hc, t100, t102, t108, t109, t110, t114, t118, t119, ← hx, ← hy, q1, q2, q3, q5.1, b1x, cbn_i, ↓reduceIte]
    refine ⟨e, C', hcl, b2.mono (by omega) (by omega), ?_⟩
    rcases b3 with ⟨d1, d2, d3⟩ | ⟨d1, d2⟩
    · refine Or.inl ⟨d1, d2, fun N m hm hu h12 h13 h14 => ?_⟩
      have h13 : mI N m 13 = x := (h13 (by rw [hz]; decide)).trans hx.symm
      have w1 := d3 N m hm hu
      show rn 171 0 [some (.ref m)] [] N = _
      simp only [t171_0, t171_1, t171_4, t171_100, t171_101, t171_102, t171_105, t171_106, t171_109, t171_110, t171_113, t171_114, t171_115, t171_116, t171_119, t171_120, t171_121, t171_124, t171_127, t171_128, t171_129, t171_130, t171_133, t171_134, t171_135, t171_138, t171_139, t171_140, t171_141, t171_144, t171_145, t171_148, t171_149, t171_150, t171_151, t171_154, t171_155, t171_158, t171_159, t171_160, t171_161, t171_164, t171_165, t171_168, t171_171, t171_172, t171_173, hm.1, h12, h13, t100, t102, t108, t109, t110, t114, t118, t119, (show cl 127 [.ref m, .int x, .int 1] N = _ from w1), cbn_i, ↓reduceIte]
    · refine Or.inr ⟨d1, fun N m hm hu h12 h13 h14 => ?_⟩
      have h13 : mI N m 13 = x := (h13 (by rw [hz]; decide)).trans hx.symm
      obtain ⟨w1, N', w2, w3, n', R', w4, w5⟩ := d2 N m hm hu
      refine ⟨?_, N', ?_, w3, n', R', by omega, w5⟩
      · show rn 171 0 [some (.ref m)] [] N = _
        simp only [t171_0, t171_1, t171_4, t171_100, t171_101, t171_102, t171_105, t171_106, t171_109, t171_110, t171_113, t171_114, t171_115, t171_116, t171_119, t171_120, t171_121, t171_124, t171_127, t171_128, t171_129, t171_130, t171_133, t171_134, t171_135, t171_138, t171_139, t171_140, t171_141, t171_144, t171_145, t171_148, t171_149, t171_150, t171_151, t171_154, t171_155, t171_158, t171_159, t171_160, t171_161, t171_164, t171_165, t171_168, t171_171, t171_172, t171_173, hm.1, h12, h13, t100, t102, t108, t109, t110, t114, t118, t119, (show cl 127 [.ref m, .int x, .int 1] N = _ from w1), cbn_i, ↓reduceIte]
      · show rn 172 0 [some (.ref m)] [] N = _
        simp only [t172_0, t172_1, t172_4, t172_100, t172_101, t172_102, t172_103, t172_106, t172_107, t172_110, t172_113, t172_114, t172_117, t172_118, t172_119, t172_120, t172_123, t172_124, t172_127, t172_130, t172_131, t172_134, t172_135, t172_136, t172_137, t172_140, t172_141, t172_144, t172_147, t172_148, t172_151, t172_152, t172_153, t172_154, t172_157, t172_159, t172_162, t172_163, t172_166, t172_167, t172_168, t172_171, t172_172, t172_175, t172_176, t172_179, t172_180, t172_181, t172_184, t172_185, t172_188, t172_189, t172_192, t172_193, t172_194, t172_197, t172_198, t172_201, t172_204, t172_205, t172_208, t172_209, t172_212, t172_213, hm.1, h12, h13, t100, t102, t108, t109, t110, t114, t118, t119, (show cl 128 [.ref m, .int x, .int 1] N = _ from w2), cbn_i, ↓reduceIte]
  · have zz := hz
    have t100 : (c = 100) = False := by rw [hz]; decide
    have t102 : (c = 102) = False := by rw [hz]; decide
    have t108 : (c = 108) = False := by rw [hz]; decide
    have t109 : (c = 109) = True := by rw [hz]; decide
    have t110 : (c = 110) = False := by rw [hz]; decide
    have t114 : (c = 114) = False := by rw [hz]; decide
    have t118 : (c = 118) = False := by rw [hz]; decide
    have t119 : (c = 119) = False := by rw [hz]; decide
    obtain ⟨e, C', b1, b2, b3⟩ := st_write (C := C) (s := S + 1) SN hN (by omega) 0 x y y 0 (Or.inl ⟨rfl, rfl, rfl⟩)
    rw [show nI 0 = 0 from rfl] at b1
    have hcl : cl 93 [.ref S] C = some (some (.int e), C') := by
      show rn 93 0 [some (.ref S)] [] C = _
      simp only [t93_0, t93_1, t93_4, t93_7, t93_100, t93_101, t93_104, t93_105, t93_106, t93_109, t93_112, t93_113, t93_116, t93_119, t93_122, t93_123, t93_124, t93_127, t93_128, t93_129, t93_132, t93_135, t93_136, t93_139, t93_142, t93_145, t93_146, t93_147, t93_150, t93_151, t93_152, t93_155, t93_158, t93_159, t93_162, t93_165, t93_168, t93_169, t93_170, t93_173, t93_174, t93_175, t93_178, t93_181, t93_183, t93_186, t93_187, t93_188, t93_191, t93_192, t93_195, t93_198, t93_201, t93_202, t93_203, t93_206, t93_207, t93_210, t93_213, t93_216, t93_217, t93_218, t93_221, t93_222, t93_225, t93_228, t93_229, t93_232, t93_235, t93_238, t93_239, t93_240, t93_243, t93_246, t93_247, t93_250, t93_253, t93_256, t93_257, t93_259, K0, P0, P3, KD, va_rf_s, hc, t100, t102, t108, t109, t110, t114, t118, t119, ← hx, ← hy, q1, q2, q3, q5.1, b1, cbn_i, ↓reduceIte]
    refine ⟨e, C', hcl, b2.mono (by omega) (by omega), ?_⟩
    rcases b3 with ⟨d1, d2, d3⟩ | ⟨d1, d2⟩
    · refine Or.inl ⟨d1, d2, fun N m hm hu h12 h13 h14 => ?_⟩
      have h13 : mI N m 13 = x := (h13 (by rw [hz]; decide)).trans hx.symm
      have h14 : mI N m 14 = y := (h14 (by rw [hz]; unfold usB; decide)).trans hy.symm
      have w1 := d3 N m hm hu
      show rn 171 0 [some (.ref m)] [] N = _
      simp only [t171_0, t171_1, t171_4, t171_100, t171_101, t171_102, t171_105, t171_106, t171_109, t171_110, t171_113, t171_114, t171_115, t171_116, t171_119, t171_120, t171_121, t171_124, t171_127, t171_128, t171_129, t171_130, t171_133, t171_134, t171_135, t171_138, t171_139, t171_140, t171_141, t171_144, t171_145, t171_148, t171_149, t171_150, t171_151, t171_154, t171_155, t171_158, t171_159, t171_160, t171_161, t171_164, t171_165, t171_168, t171_171, t171_172, t171_173, hm.1, h12, h13, h14, t100, t102, t108, t109, t110, t114, t118, t119, (show cl 103 [.ref m, .int x, .int y, .int 0] N = _ from w1), cbn_i, ↓reduceIte]
    · refine Or.inr ⟨d1, fun N m hm hu h12 h13 h14 => ?_⟩
      have h13 : mI N m 13 = x := (h13 (by rw [hz]; decide)).trans hx.symm
      have h14 : mI N m 14 = y := (h14 (by rw [hz]; unfold usB; decide)).trans hy.symm
      obtain ⟨w1, N', w2, w3, n', R', w4, w5⟩ := d2 N m hm hu
      refine ⟨?_, N', ?_, w3, n', R', by omega, w5⟩
      · show rn 171 0 [some (.ref m)] [] N = _
        simp only [t171_0, t171_1, t171_4, t171_100, t171_101, t171_102, t171_105, t171_106, t171_109, t171_110, t171_113, t171_114, t171_115, t171_116, t171_119, t171_120, t171_121, t171_124, t171_127, t171_128, t171_129, t171_130, t171_133, t171_134, t171_135, t171_138, t171_139, t171_140, t171_141, t171_144, t171_145, t171_148, t171_149, t171_150, t171_151, t171_154, t171_155, t171_158, t171_159, t171_160, t171_161, t171_164, t171_165, t171_168, t171_171, t171_172, t171_173, hm.1, h12, h13, h14, t100, t102, t108, t109, t110, t114, t118, t119, (show cl 103 [.ref m, .int x, .int y, .int 0] N = _ from w1), cbn_i, ↓reduceIte]
      · show rn 172 0 [some (.ref m)] [] N = _
        simp only [t172_0, t172_1, t172_4, t172_100, t172_101, t172_102, t172_103, t172_106, t172_107, t172_110, t172_113, t172_114, t172_117, t172_118, t172_119, t172_120, t172_123, t172_124, t172_127, t172_130, t172_131, t172_134, t172_135, t172_136, t172_137, t172_140, t172_141, t172_144, t172_147, t172_148, t172_151, t172_152, t172_153, t172_154, t172_157, t172_159, t172_162, t172_163, t172_166, t172_167, t172_168, t172_171, t172_172, t172_175, t172_176, t172_179, t172_180, t172_181, t172_184, t172_185, t172_188, t172_189, t172_192, t172_193, t172_194, t172_197, t172_198, t172_201, t172_204, t172_205, t172_208, t172_209, t172_212, t172_213, hm.1, h12, h13, h14, t100, t102, t108, t109, t110, t114, t118, t119, (show cl 108 [.ref m, .int 0, .int x, .int y] N = _ from w2), cbn_i, ↓reduceIte]
  · have zz := hz
    have t100 : (c = 100) = False := by rw [hz]; decide
    have t102 : (c = 102) = False := by rw [hz]; decide
    have t108 : (c = 108) = False := by rw [hz]; decide
    have t109 : (c = 109) = False := by rw [hz]; decide
    have t110 : (c = 110) = True := by rw [hz]; decide
    have t114 : (c = 114) = False := by rw [hz]; decide
    have t118 : (c = 118) = False := by rw [hz]; decide
    have t119 : (c = 119) = False := by rw [hz]; decide
    obtain ⟨e, C', b1, b2, b3⟩ := st_need (C := C) (s := S + 1) SN hN x y
    have hcl : cl 93 [.ref S] C = some (some (.int e), C') := by
      show rn 93 0 [some (.ref S)] [] C = _
      simp only [t93_0, t93_1, t93_4, t93_7, t93_100, t93_101, t93_104, t93_105, t93_106, t93_109, t93_112, t93_113, t93_116, t93_119, t93_122, t93_123, t93_124, t93_127, t93_128, t93_129, t93_132, t93_135, t93_136, t93_139, t93_142, t93_145, t93_146, t93_147, t93_150, t93_151, t93_152, t93_155, t93_158, t93_159, t93_162, t93_165, t93_168, t93_169, t93_170, t93_173, t93_174, t93_175, t93_178, t93_181, t93_183, t93_186, t93_187, t93_188, t93_191, t93_192, t93_195, t93_198, t93_201, t93_202, t93_203, t93_206, t93_207, t93_210, t93_213, t93_216, t93_217, t93_218, t93_221, t93_222, t93_225, t93_228, t93_229, t93_232, t93_235, t93_238, t93_239, t93_240, t93_243, t93_246, t93_247, t93_250, t93_253, t93_256, t93_257, t93_259, K0, P0, P3, KD, va_rf_s, hc, t100, t102, t108, t109, t110, t114, t118, t119, ← hx, ← hy, q1, q2, q3, q5.1, b1, cbn_i, ↓reduceIte]
    refine ⟨e, C', hcl, b2.mono (by omega) (by omega), ?_⟩
    rcases b3 with ⟨d1, d2, d3⟩ | ⟨d1, d2⟩
    · refine Or.inl ⟨d1, d2, fun N m hm hu h12 h13 h14 => ?_⟩
      have h13 : mI N m 13 = x := (h13 (by rw [hz]; decide)).trans hx.symm
      have h14 : mI N m 14 = y := (h14 (by rw [hz]; unfold usB; decide)).trans hy.symm
      have w1 := d3 N m hm hu
      show rn 171 0 [some (.ref m)] [] N = _
      simp only [t171_0, t171_1, t171_4, t171_100, t171_101, t171_102, t171_105, t171_106, t171_109, t171_110, t171_113, t171_114, t171_115, t171_116, t171_119, t171_120, t171_121, t171_124, t171_127, t171_128, t171_129, t171_130, t171_133, t171_134, t171_135, t171_138, t171_139, t171_140, t171_141, t171_144, t171_145, t171_148, t171_149, t171_150, t171_151, t171_154, t171_155, t171_158, t171_159, t171_160, t171_161, t171_164, t171_165, t171_168, t171_171, t171_172, t171_173, hm.1, h12, h13, h14, t100, t102, t108, t109, t110, t114, t118, t119, (show cl 120 [.ref m, .int x, .int y] N = _ from w1), cbn_i, ↓reduceIte]
    · refine Or.inr ⟨d1, fun N m hm hu h12 h13 h14 => ?_⟩
      have h13 : mI N m 13 = x := (h13 (by rw [hz]; decide)).trans hx.symm
      have h14 : mI N m 14 = y := (h14 (by rw [hz]; unfold usB; decide)).trans hy.symm
      obtain ⟨w1, N', w2, w3, n', R', w4, w5⟩ := d2 N m hm hu
      refine ⟨?_, N', ?_, w3, n', R', by omega, w5⟩
      · show rn 171 0 [some (.ref m)] [] N = _
        simp only [t171_0, t171_1, t171_4, t171_100, t171_101, t171_102, t171_105, t171_106, t171_109, t171_110, t171_113, t171_114, t171_115, t171_116, t171_119, t171_120, t171_121, t171_124, t171_127, t171_128, t171_129, t171_130, t171_133, t171_134, t171_135, t171_138, t171_139, t171_140, t171_141, t171_144, t171_145, t171_148, t171_149, t171_150, t171_151, t171_154, t171_155, t171_158, t171_159, t171_160, t171_161, t171_164, t171_165, t171_168, t171_171, t171_172, t171_173, hm.1, h12, h13, h14, t100, t102, t108, t109, t110, t114, t118, t119, (show cl 120 [.ref m, .int x, .int y] N = _ from w1), cbn_i, ↓reduceIte]
      · show rn 172 0 [some (.ref m)] [] N = _
        simp only [t172_0, t172_1, t172_4, t172_100, t172_101, t172_102, t172_103, t172_106, t172_107, t172_110, t172_113, t172_114, t172_117, t172_118, t172_119, t172_120, t172_123, t172_124, t172_127, t172_130, t172_131, t172_134, t172_135, t172_136, t172_137, t172_140, t172_141, t172_144, t172_147, t172_148, t172_151, t172_152, t172_153, t172_154, t172_157, t172_159, t172_162, t172_163, t172_166, t172_167, t172_168, t172_171, t172_172, t172_175, t172_176, t172_179, t172_180, t172_181, t172_184, t172_185, t172_188, t172_189, t172_192, t172_193, t172_194, t172_197, t172_198, t172_201, t172_204, t172_205, t172_208, t172_209, t172_212, t172_213, hm.1, h12, h13, h14, t100, t102, t108, t109, t110, t114, t118, t119, (show cl 122 [.ref m, .int x, .int y] N = _ from w2), cbn_i, ↓reduceIte]
  · have zz := hz
    have t100 : (c = 100) = False := by rw [hz]; decide
    have t102 : (c = 102) = False := by rw [hz]; decide
    have t108 : (c = 108) = False := by rw [hz]; decide
    have t109 : (c = 109) = False := by rw [hz]; decide
    have t110 : (c = 110) = False := by rw [hz]; decide
    have t114 : (c = 114) = True := by rw [hz]; decide
    have t118 : (c = 118) = False := by rw [hz]; decide
    have t119 : (c = 119) = False := by rw [hz]; decide
    obtain ⟨e, C', b1, b2, b3⟩ := st_round (C := C) (s := S + 1) SN hN (by omega)
    have hcl : cl 93 [.ref S] C = some (some (.int e), C') := by
      show rn 93 0 [some (.ref S)] [] C = _
      simp only [t93_0, t93_1, t93_4, t93_7, t93_100, t93_101, t93_104, t93_105, t93_106, t93_109, t93_112, t93_113, t93_116, t93_119, t93_122, t93_123, t93_124, t93_127, t93_128, t93_129, t93_132, t93_135, t93_136, t93_139, t93_142, t93_145, t93_146, t93_147, t93_150, t93_151, t93_152, t93_155, t93_158, t93_159, t93_162, t93_165, t93_168, t93_169, t93_170, t93_173, t93_174, t93_175, t93_178, t93_181, t93_183, t93_186, t93_187, t93_188, t93_191, t93_192, t93_195, t93_198, t93_201, t93_202, t93_203, t93_206, t93_207, t93_210, t93_213, t93_216, t93_217, t93_218, t93_221, t93_222, t93_225, t93_228, t93_229, t93_232, t93_235, t93_238, t93_239, t93_240, t93_243, t93_246, t93_247, t93_250, t93_253, t93_256, t93_257, t93_259, K0, P0, P3, KD, va_rf_s, hc, t100, t102, t108, t109, t110, t114, t118, t119, ← hx, ← hy, q1, q2, q3, q5.1, b1, cbn_i, ↓reduceIte]
    refine ⟨e, C', hcl, b2.mono (by omega) (by omega), ?_⟩
    rcases b3 with ⟨d1, d2, d3⟩ | ⟨d1, d2⟩
    · exfalso
      have := d3 (sI C (S + 149) w) (S + 148) (MM.sI _ _) (by rw [mI_sI, if_pos rfl])
      cases this
      exact absurd d1 (by decide)
    · refine Or.inr ⟨d1, fun N m hm hu h12 h13 h14 => ?_⟩
      obtain ⟨w1, N', w2, w3, n', R', w4, w5⟩ := d2 N m hm hu
      refine ⟨?_, N', ?_, w3, n', R', by omega, w5⟩
      · show rn 171 0 [some (.ref m)] [] N = _
        simp only [t171_0, t171_1, t171_4, t171_100, t171_101, t171_102, t171_105, t171_106, t171_109, t171_110, t171_113, t171_114, t171_115, t171_116, t171_119, t171_120, t171_121, t171_124, t171_127, t171_128, t171_129, t171_130, t171_133, t171_134, t171_135, t171_138, t171_139, t171_140, t171_141, t171_144, t171_145, t171_148, t171_149, t171_150, t171_151, t171_154, t171_155, t171_158, t171_159, t171_160, t171_161, t171_164, t171_165, t171_168, t171_171, t171_172, t171_173, hm.1, h12, t100, t102, t108, t109, t110, t114, t118, t119, cbn_i, ↓reduceIte]
      · show rn 172 0 [some (.ref m)] [] N = _
        simp only [t172_0, t172_1, t172_4, t172_100, t172_101, t172_102, t172_103, t172_106, t172_107, t172_110, t172_113, t172_114, t172_117, t172_118, t172_119, t172_120, t172_123, t172_124, t172_127, t172_130, t172_131, t172_134, t172_135, t172_136, t172_137, t172_140, t172_141, t172_144, t172_147, t172_148, t172_151, t172_152, t172_153, t172_154, t172_157, t172_159, t172_162, t172_163, t172_166, t172_167, t172_168, t172_171, t172_172, t172_175, t172_176, t172_179, t172_180, t172_181, t172_184, t172_185, t172_188, t172_189, t172_192, t172_193, t172_194, t172_197, t172_198, t172_201, t172_204, t172_205, t172_208, t172_209, t172_212, t172_213, hm.1, h12, t100, t102, t108, t109, t110, t114, t118, t119, (show cl 136 [.ref m] N = _ from w2), cbn_i, ↓reduceIte]
  · have zz := hz
    have t100 : (c = 100) = False := by rw [hz]; decide
    have t102 : (c = 102) = False := by rw [hz]; decide
    have t108 : (c = 108) = False := by rw [hz]; decide
    have t109 : (c = 109) = False := by rw [hz]; decide
    have t110 : (c = 110) = False := by rw [hz]; decide
    have t114 : (c = 114) = False := by rw [hz]; decide
    have t118 : (c = 118) = True := by rw [hz]; decide
    have t119 : (c = 119) = False := by rw [hz]; decide
    obtain ⟨e, C', b1, b2, b3⟩ := st_write (C := C) (s := S + 1) SN hN (by omega) 2 x y y 0 (Or.inr (Or.inl ⟨rfl, rfl, rfl⟩))
    rw [show nI 2 = 2 from rfl] at b1
    have hcl : cl 93 [.ref S] C = some (some (.int e), C') := by
      show rn 93 0 [some (.ref S)] [] C = _
      simp only [t93_0, t93_1, t93_4, t93_7, t93_100, t93_101, t93_104, t93_105, t93_106, t93_109, t93_112, t93_113, t93_116, t93_119, t93_122, t93_123, t93_124, t93_127, t93_128, t93_129, t93_132, t93_135, t93_136, t93_139, t93_142, t93_145, t93_146, t93_147, t93_150, t93_151, t93_152, t93_155, t93_158, t93_159, t93_162, t93_165, t93_168, t93_169, t93_170, t93_173, t93_174, t93_175, t93_178, t93_181, t93_183, t93_186, t93_187, t93_188, t93_191, t93_192, t93_195, t93_198, t93_201, t93_202, t93_203, t93_206, t93_207, t93_210, t93_213, t93_216, t93_217, t93_218, t93_221, t93_222, t93_225, t93_228, t93_229, t93_232, t93_235, t93_238, t93_239, t93_240, t93_243, t93_246, t93_247, t93_250, t93_253, t93_256, t93_257, t93_259, K0, P0, P3, KD, va_rf_s, hc, t100, t102, t108, t109, t110, t114, t118, t119, ← hx, ← hy, q1, q2, q3, q5.1, b1, cbn_i, ↓reduceIte]
    refine ⟨e, C', hcl, b2.mono (by omega) (by omega), ?_⟩
    rcases b3 with ⟨d1, d2, d3⟩ | ⟨d1, d2⟩
    · refine Or.inl ⟨d1, d2, fun N m hm hu h12 h13 h14 => ?_⟩
      have h13 : mI N m 13 = x := (h13 (by rw [hz]; decide)).trans hx.symm
      have h14 : mI N m 14 = y := (h14 (by rw [hz]; unfold usB; decide)).trans hy.symm
      have w1 := d3 N m hm hu
      show rn 171 0 [some (.ref m)] [] N = _
      simp only [t171_0, t171_1, t171_4, t171_100, t171_101, t171_102, t171_105, t171_106, t171_109, t171_110, t171_113, t171_114, t171_115, t171_116, t171_119, t171_120, t171_121, t171_124, t171_127, t171_128, t171_129, t171_130, t171_133, t171_134, t171_135, t171_138, t171_139, t171_140, t171_141, t171_144, t171_145, t171_148, t171_149, t171_150, t171_151, t171_154, t171_155, t171_158, t171_159, t171_160, t171_161, t171_164, t171_165, t171_168, t171_171, t171_172, t171_173, hm.1, h12, h13, h14, t100, t102, t108, t109, t110, t114, t118, t119, (show cl 103 [.ref m, .int x, .int y, .int 0] N = _ from w1), cbn_i, ↓reduceIte]
    · refine Or.inr ⟨d1, fun N m hm hu h12 h13 h14 => ?_⟩
      have h13 : mI N m 13 = x := (h13 (by rw [hz]; decide)).trans hx.symm
      have h14 : mI N m 14 = y := (h14 (by rw [hz]; unfold usB; decide)).trans hy.symm
      obtain ⟨w1, N', w2, w3, n', R', w4, w5⟩ := d2 N m hm hu
      refine ⟨?_, N', ?_, w3, n', R', by omega, w5⟩
      · show rn 171 0 [some (.ref m)] [] N = _
        simp only [t171_0, t171_1, t171_4, t171_100, t171_101, t171_102, t171_105, t171_106, t171_109, t171_110, t171_113, t171_114, t171_115, t171_116, t171_119, t171_120, t171_121, t171_124, t171_127, t171_128, t171_129, t171_130, t171_133, t171_134, t171_135, t171_138, t171_139, t171_140, t171_141, t171_144, t171_145, t171_148, t171_149, t171_150, t171_151, t171_154, t171_155, t171_158, t171_159, t171_160, t171_161, t171_164, t171_165, t171_168, t171_171, t171_172, t171_173, hm.1, h12, h13, h14, t100, t102, t108, t109, t110, t114, t118, t119, (show cl 103 [.ref m, .int x, .int y, .int 0] N = _ from w1), cbn_i, ↓reduceIte]
      · show rn 172 0 [some (.ref m)] [] N = _
        simp only [t172_0, t172_1, t172_4, t172_100, t172_101, t172_102, t172_103, t172_106, t172_107, t172_110, t172_113, t172_114, t172_117, t172_118, t172_119, t172_120, t172_123, t172_124, t172_127, t172_130, t172_131, t172_134, t172_135, t172_136, t172_137, t172_140, t172_141, t172_144, t172_147, t172_148, t172_151, t172_152, t172_153, t172_154, t172_157, t172_159, t172_162, t172_163, t172_166, t172_167, t172_168, t172_171, t172_172, t172_175, t172_176, t172_179, t172_180, t172_181, t172_184, t172_185, t172_188, t172_189, t172_192, t172_193, t172_194, t172_197, t172_198, t172_201, t172_204, t172_205, t172_208, t172_209, t172_212, t172_213, hm.1, h12, h13, h14, t100, t102, t108, t109, t110, t114, t118, t119, (show cl 108 [.ref m, .int 2, .int x, .int y] N = _ from w2), cbn_i, ↓reduceIte]
  · have zz := hz
    have t100 : (c = 100) = False := by rw [hz]; decide
    have t102 : (c = 102) = False := by rw [hz]; decide
    have t108 : (c = 108) = False := by rw [hz]; decide
    have t109 : (c = 109) = False := by rw [hz]; decide
    have t110 : (c = 110) = False := by rw [hz]; decide
    have t114 : (c = 114) = False := by rw [hz]; decide
    have t118 : (c = 118) = False := by rw [hz]; decide
    have t119 : (c = 119) = True := by rw [hz]; decide
    obtain ⟨e, C', b1, b2, b3⟩ := st_write (C := C) (s := S + 1) SN hN (by omega) 1 x y 0 y (Or.inr (Or.inr (Or.inl ⟨rfl, rfl, rfl⟩)))
    rw [show nI 1 = 1 from rfl] at b1
    have hcl : cl 93 [.ref S] C = some (some (.int e), C') := by
      show rn 93 0 [some (.ref S)] [] C = _
      simp only [t93_0, t93_1, t93_4, t93_7, t93_100, t93_101, t93_104, t93_105, t93_106, t93_109, t93_112, t93_113, t93_116, t93_119, t93_122, t93_123, t93_124, t93_127, t93_128, t93_129, t93_132, t93_135, t93_136, t93_139, t93_142, t93_145, t93_146, t93_147, t93_150, t93_151, t93_152, t93_155, t93_158, t93_159, t93_162, t93_165, t93_168, t93_169, t93_170, t93_173, t93_174, t93_175, t93_178, t93_181, t93_183, t93_186, t93_187, t93_188, t93_191, t93_192, t93_195, t93_198, t93_201, t93_202, t93_203, t93_206, t93_207, t93_210, t93_213, t93_216, t93_217, t93_218, t93_221, t93_222, t93_225, t93_228, t93_229, t93_232, t93_235, t93_238, t93_239, t93_240, t93_243, t93_246, t93_247, t93_250, t93_253, t93_256, t93_257, t93_259, K0, P0, P3, KD, va_rf_s, hc, t100, t102, t108, t109, t110, t114, t118, t119, ← hx, ← hy, q1, q2, q3, q5.1, b1, cbn_i, ↓reduceIte]
    refine ⟨e, C', hcl, b2.mono (by omega) (by omega), ?_⟩
    rcases b3 with ⟨d1, d2, d3⟩ | ⟨d1, d2⟩
    · refine Or.inl ⟨d1, d2, fun N m hm hu h12 h13 h14 => ?_⟩
      have h13 : mI N m 13 = x := (h13 (by rw [hz]; decide)).trans hx.symm
      have h14 : mI N m 14 = y := (h14 (by rw [hz]; unfold usB; decide)).trans hy.symm
      have w1 := d3 N m hm hu
      show rn 171 0 [some (.ref m)] [] N = _
      simp only [t171_0, t171_1, t171_4, t171_100, t171_101, t171_102, t171_105, t171_106, t171_109, t171_110, t171_113, t171_114, t171_115, t171_116, t171_119, t171_120, t171_121, t171_124, t171_127, t171_128, t171_129, t171_130, t171_133, t171_134, t171_135, t171_138, t171_139, t171_140, t171_141, t171_144, t171_145, t171_148, t171_149, t171_150, t171_151, t171_154, t171_155, t171_158, t171_159, t171_160, t171_161, t171_164, t171_165, t171_168, t171_171, t171_172, t171_173, hm.1, h12, h13, h14, t100, t102, t108, t109, t110, t114, t118, t119, (show cl 103 [.ref m, .int x, .int 0, .int y] N = _ from w1), cbn_i, ↓reduceIte]
    · refine Or.inr ⟨d1, fun N m hm hu h12 h13 h14 => ?_⟩
      have h13 : mI N m 13 = x := (h13 (by rw [hz]; decide)).trans hx.symm
      have h14 : mI N m 14 = y := (h14 (by rw [hz]; unfold usB; decide)).trans hy.symm
      obtain ⟨w1, N', w2, w3, n', R', w4, w5⟩ := d2 N m hm hu
      refine ⟨?_, N', ?_, w3, n', R', by omega, w5⟩
      · show rn 171 0 [some (.ref m)] [] N = _
        simp only [t171_0, t171_1, t171_4, t171_100, t171_101, t171_102, t171_105, t171_106, t171_109, t171_110, t171_113, t171_114, t171_115, t171_116, t171_119, t171_120, t171_121, t171_124, t171_127, t171_128, t171_129, t171_130, t171_133, t171_134, t171_135, t171_138, t171_139, t171_140, t171_141, t171_144, t171_145, t171_148, t171_149, t171_150, t171_151, t171_154, t171_155, t171_158, t171_159, t171_160, t171_161, t171_164, t171_165, t171_168, t171_171, t171_172, t171_173, hm.1, h12, h13, h14, t100, t102, t108, t109, t110, t114, t118, t119, (show cl 103 [.ref m, .int x, .int 0, .int y] N = _ from w1), cbn_i, ↓reduceIte]
      · show rn 172 0 [some (.ref m)] [] N = _
        simp only [t172_0, t172_1, t172_4, t172_100, t172_101, t172_102, t172_103, t172_106, t172_107, t172_110, t172_113, t172_114, t172_117, t172_118, t172_119, t172_120, t172_123, t172_124, t172_127, t172_130, t172_131, t172_134, t172_135, t172_136, t172_137, t172_140, t172_141, t172_144, t172_147, t172_148, t172_151, t172_152, t172_153, t172_154, t172_157, t172_159, t172_162, t172_163, t172_166, t172_167, t172_168, t172_171, t172_172, t172_175, t172_176, t172_179, t172_180, t172_181, t172_184, t172_185, t172_188, t172_189, t172_192, t172_193, t172_194, t172_197, t172_198, t172_201, t172_204, t172_205, t172_208, t172_209, t172_212, t172_213, hm.1, h12, h13, h14, t100, t102, t108, t109, t110, t114, t118, t119, (show cl 108 [.ref m, .int 1, .int x, .int y] N = _ from w2), cbn_i, ↓reduceIte]
