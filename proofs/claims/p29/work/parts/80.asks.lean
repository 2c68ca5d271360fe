/-! the class's answers -/
def ClsAt (M : SM) (S : Nat) : Prop :=
  (mK M S = (10, 0) ∧ mP M S 0 = some (S + 1) ∧ mP M S 1 = some (S + 14) ∧ mP M S 4 = some (S + 111) ∧ mP M S 5 = some (S + 117)) ∧ StAt M (S + 1) ∧
  (mK M (S + 14) = (15, 0) ∧ mP M (S + 14) 0 = some (S + 15) ∧ mK M (S + 15) = (3, 7) ∧ ∀ i, i < 7 → mP M (S + 15) i = some (S + 16 + 13 * i) ∧ StAt M (S + 16 + 13 * i)) ∧ RepAt M (S + 111) ∧ TreeAt M (S + 117)
theorem ClsAt.st {M M' : SM} {S : Nat} (h : ClsAt M S) (e : M'.2.2 = M.2.2) : ClsAt M' S := by
  have e1 : mK M' = mK M := congrArg (fun z => z.2.1) e
  have e2 : mP M' = mP M := congrArg (fun z => z.1) e
  obtain ⟨a, b, c, d, f⟩ := h
  unfold ClsAt
  rw [e1, e2]
  exact ⟨a, b.st e, ⟨c.1, c.2.1, c.2.2.1, fun x hx => ⟨(c.2.2.2 x hx).1, (c.2.2.2 x hx).2.st e⟩⟩, d.st e, f.st e⟩
theorem a_ent0 {M : SM} {S n R e : Nat} {w : Nat → Int32} (hC : ClsAt M S) (hN : SR M (S + 1) w n R) (he : e < n) : cl 70 [.ref S, .int (nI e), .int 0] M = some (some (.int (mI M (S + 1 + 1 + 1) e)), M) := by
  obtain ⟨⟨K0, P0, P1, P5, P6⟩, ⟨q1, q2, q3, q4, q5⟩, ⟨KH, PH, KR, RG⟩, TQ, TW⟩ := id hC
  have n40 := hN.1.2.1
  have hsz := hN.1.1
  have one0 : ((1 : Int32) = 0) = False := by decide
  have hl := c_lhas q4 (nI e)
  rw [hsz] at hl
  have q : (nI e < 0 ∨ nI n ≤ nI e) = False := ent_in (by omega) he
  have hin : inR (nI e) 40 = True := i_inT (by omega) (by decide)
  have hce := nI_c (show e < 2147483648 by omega)
  have hor := c_orphans q4 hsz n40
  suffices key : ∀ y : Int32, y = 0 → cl 70 [.ref S, .int (nI e), .int y] M = some (some (.int (mI M (S + 1 + 1 + 1) e)), M) from key _ rfl
  intro y hy
  have t0 : (y = 0) = True := by rw [hy]; decide
  show rn 70 0 [some (.ref S), some (.int (nI e)), some (.int y), none] [] M = _
  simp only [t70_0, t70_1, t70_4, t70_7, t70_8, t70_9, t70_10, t70_13, t70_16, t70_17, t70_18, t70_19, t70_68, t70_69, t70_72, t70_73, t70_74, t70_75, t70_76, t70_79, t70_80, t70_81, t70_82, t70_83, t70_86, t70_87, t70_88, t70_89, t70_90, t70_93, t70_94, t70_97, t70_100, t70_101, t70_104, t70_105, t70_106, t70_107, t70_110, t70_111, t70_114, t70_117, t70_118, t70_121, t70_122, t70_123, t70_124, t70_127, t70_130, t70_133, t70_134, t70_135, t70_136, t70_137, t70_140, t70_143, t70_146, t70_147, t70_148, t70_149, t70_150, t70_153, t70_154, t70_155, t70_158, t70_159, t70_160, t70_161, t70_164, t70_165, t70_167, t0, ↓reduceIte, K0, P0, q1, q2, q3, q4.1, q5.1, va_rf_s, hl, q, not_true_eq_false, not_false_eq_true, one0, cbn_i, cbn_v, q4.2.1, q4.2.2.2.2.2.2.1, true_or, hin, and_self, hce]
theorem a_ent1 {M : SM} {S n R e : Nat} {w : Nat → Int32} (hC : ClsAt M S) (hN : SR M (S + 1) w n R) (he : e < n) : cl 70 [.ref S, .int (nI e), .int 1] M = some (some (.int (mI M (S + 1 + 1 + 2) e)), M) := by
  obtain ⟨⟨K0, P0, P1, P5, P6⟩, ⟨q1, q2, q3, q4, q5⟩, ⟨KH, PH, KR, RG⟩, TQ, TW⟩ := id hC
  have n40 := hN.1.2.1
  have hsz := hN.1.1
  have one0 : ((1 : Int32) = 0) = False := by decide
  have hl := c_lhas q4 (nI e)
  rw [hsz] at hl
  have q : (nI e < 0 ∨ nI n ≤ nI e) = False := ent_in (by omega) he
  have hin : inR (nI e) 40 = True := i_inT (by omega) (by decide)
  have hce := nI_c (show e < 2147483648 by omega)
  have hor := c_orphans q4 hsz n40
  suffices key : ∀ y : Int32, y = 1 → cl 70 [.ref S, .int (nI e), .int y] M = some (some (.int (mI M (S + 1 + 1 + 2) e)), M) from key _ rfl
  intro y hy
  have t0 : (y = 0) = False := by rw [hy]; decide
  have t1 : (y = 1) = True := by rw [hy]; decide
  show rn 70 0 [some (.ref S), some (.int (nI e)), some (.int y), none] [] M = _
  simp only [t70_0, t70_1, t70_4, t70_7, t70_8, t70_9, t70_10, t70_13, t70_16, t70_17, t70_18, t70_19, t70_68, t70_69, t70_72, t70_73, t70_74, t70_75, t70_76, t70_79, t70_80, t70_81, t70_82, t70_83, t70_86, t70_87, t70_88, t70_89, t70_90, t70_93, t70_94, t70_97, t70_100, t70_101, t70_104, t70_105, t70_106, t70_107, t70_110, t70_111, t70_114, t70_117, t70_118, t70_121, t70_122, t70_123, t70_124, t70_127, t70_130, t70_133, t70_134, t70_135, t70_136, t70_137, t70_140, t70_143, t70_146, t70_147, t70_148, t70_149, t70_150, t70_153, t70_154, t70_155, t70_158, t70_159, t70_160, t70_161, t70_164, t70_165, t70_167, t0, t1, ↓reduceIte, K0, P0, q1, q2, q3, q4.1, q5.1, va_rf_s, hl, q, not_true_eq_false, not_false_eq_true, one0, cbn_i, cbn_v, q4.2.2.1, q4.2.2.2.2.2.2.2.1, true_or, hin, and_self, hce]
theorem a_ent2 {M : SM} {S n R e : Nat} {w : Nat → Int32} (hC : ClsAt M S) (hN : SR M (S + 1) w n R) (he : e < n) : cl 70 [.ref S, .int (nI e), .int 2] M = some (some (.int (mI M (S + 1 + 1 + 3) e)), M) := by
  obtain ⟨⟨K0, P0, P1, P5, P6⟩, ⟨q1, q2, q3, q4, q5⟩, ⟨KH, PH, KR, RG⟩, TQ, TW⟩ := id hC
  have n40 := hN.1.2.1
  have hsz := hN.1.1
  have one0 : ((1 : Int32) = 0) = False := by decide
  have hl := c_lhas q4 (nI e)
  rw [hsz] at hl
  have q : (nI e < 0 ∨ nI n ≤ nI e) = False := ent_in (by omega) he
  have hin : inR (nI e) 40 = True := i_inT (by omega) (by decide)
  have hce := nI_c (show e < 2147483648 by omega)
  have hor := c_orphans q4 hsz n40
  suffices key : ∀ y : Int32, y = 2 → cl 70 [.ref S, .int (nI e), .int y] M = some (some (.int (mI M (S + 1 + 1 + 3) e)), M) from key _ rfl
  intro y hy
  have t0 : (y = 0) = False := by rw [hy]; decide
  have t1 : (y = 1) = False := by rw [hy]; decide
  have t2 : (y = 2) = True := by rw [hy]; decide
  show rn 70 0 [some (.ref S), some (.int (nI e)), some (.int y), none] [] M = _
  simp only [t70_0, t70_1, t70_4, t70_7, t70_8, t70_9, t70_10, t70_13, t70_16, t70_17, t70_18, t70_19, t70_68, t70_69, t70_72, t70_73, t70_74, t70_75, t70_76, t70_79, t70_80, t70_81, t70_82, t70_83, t70_86, t70_87, t70_88, t70_89, t70_90, t70_93, t70_94, t70_97, t70_100, t70_101, t70_104, t70_105, t70_106, t70_107, t70_110, t70_111, t70_114, t70_117, t70_118, t70_121, t70_122, t70_123, t70_124, t70_127, t70_130, t70_133, t70_134, t70_135, t70_136, t70_137, t70_140, t70_143, t70_146, t70_147, t70_148, t70_149, t70_150, t70_153, t70_154, t70_155, t70_158, t70_159, t70_160, t70_161, t70_164, t70_165, t70_167, t0, t1, t2, ↓reduceIte, K0, P0, q1, q2, q3, q4.1, q5.1, va_rf_s, hl, q, not_true_eq_false, not_false_eq_true, one0, cbn_i, cbn_v, q4.2.2.2.1, q4.2.2.2.2.2.2.2.2.1, true_or, hin, and_self, hce]
theorem a_ent3 {M : SM} {S n R e : Nat} {w : Nat → Int32} (hC : ClsAt M S) (hN : SR M (S + 1) w n R) (he : e < n) : cl 70 [.ref S, .int (nI e), .int 3] M = some (some (.int (if bt (mJ M (S + 1 + 1) 1) e = true then 1 else 0)), M) := by
  obtain ⟨⟨K0, P0, P1, P5, P6⟩, ⟨q1, q2, q3, q4, q5⟩, ⟨KH, PH, KR, RG⟩, TQ, TW⟩ := id hC
  have n40 := hN.1.2.1
  have hsz := hN.1.1
  have one0 : ((1 : Int32) = 0) = False := by decide
  have hl := c_lhas q4 (nI e)
  rw [hsz] at hl
  have q : (nI e < 0 ∨ nI n ≤ nI e) = False := ent_in (by omega) he
  have hin : inR (nI e) 40 = True := i_inT (by omega) (by decide)
  have hce := nI_c (show e < 2147483648 by omega)
  have hor := c_orphans q4 hsz n40
  suffices key : ∀ y : Int32, y = 3 → cl 70 [.ref S, .int (nI e), .int y] M = some (some (.int (if bt (mJ M (S + 1 + 1) 1) e = true then 1 else 0)), M) from key _ rfl
  intro y hy
  have t0 : (y = 0) = False := by rw [hy]; decide
  have t1 : (y = 1) = False := by rw [hy]; decide
  have t2 : (y = 2) = False := by rw [hy]; decide
  have t3 : (y = 3) = True := by rw [hy]; decide
  have ho := c_holds (mJ M (S + 1 + 1) 1) (k := e) (by omega) M
  show rn 70 0 [some (.ref S), some (.int (nI e)), some (.int y), none] [] M = _
  cases hb : bt (mJ M (S + 1 + 1) 1) e <;> rw [hb] at ho <;> simp only [t70_0, t70_1, t70_4, t70_7, t70_8, t70_9, t70_10, t70_13, t70_16, t70_17, t70_18, t70_19, t70_68, t70_69, t70_72, t70_73, t70_74, t70_75, t70_76, t70_79, t70_80, t70_81, t70_82, t70_83, t70_86, t70_87, t70_88, t70_89, t70_90, t70_93, t70_94, t70_97, t70_100, t70_101, t70_104, t70_105, t70_106, t70_107, t70_110, t70_111, t70_114, t70_117, t70_118, t70_121, t70_122, t70_123, t70_124, t70_127, t70_130, t70_133, t70_134, t70_135, t70_136, t70_137, t70_140, t70_143, t70_146, t70_147, t70_148, t70_149, t70_150, t70_153, t70_154, t70_155, t70_158, t70_159, t70_160, t70_161, t70_164, t70_165, t70_167, t0, t1, t2, t3, ↓reduceIte, K0, P0, q1, q2, q3, q4.1, q5.1, va_rf_s, hl, q, not_true_eq_false, not_false_eq_true, one0, cbn_i, cbn_v, ho, Bool.false_eq_true]
theorem a_ent4 {M : SM} {S n R e : Nat} {w : Nat → Int32} (hC : ClsAt M S) (hN : SR M (S + 1) w n R) (he : e < n) : cl 70 [.ref S, .int (nI e), .int 4] M = some (some (.int (if bt (orpB (mJ M (S + 1 + 1 + 5)) n (mJ M (S + 1 + 1) 1)) e = true then 1 else 0)), M) := by
  obtain ⟨⟨K0, P0, P1, P5, P6⟩, ⟨q1, q2, q3, q4, q5⟩, ⟨KH, PH, KR, RG⟩, TQ, TW⟩ := id hC
  have n40 := hN.1.2.1
  have hsz := hN.1.1
  have one0 : ((1 : Int32) = 0) = False := by decide
  have hl := c_lhas q4 (nI e)
  rw [hsz] at hl
  have q : (nI e < 0 ∨ nI n ≤ nI e) = False := ent_in (by omega) he
  have hin : inR (nI e) 40 = True := i_inT (by omega) (by decide)
  have hce := nI_c (show e < 2147483648 by omega)
  have hor := c_orphans q4 hsz n40
  suffices key : ∀ y : Int32, y = 4 → cl 70 [.ref S, .int (nI e), .int y] M = some (some (.int (if bt (orpB (mJ M (S + 1 + 1 + 5)) n (mJ M (S + 1 + 1) 1)) e = true then 1 else 0)), M) from key _ rfl
  intro y hy
  have t0 : (y = 0) = False := by rw [hy]; decide
  have t1 : (y = 1) = False := by rw [hy]; decide
  have t2 : (y = 2) = False := by rw [hy]; decide
  have t3 : (y = 3) = False := by rw [hy]; decide
  have t4 : (y = 4) = True := by rw [hy]; decide
  have ho := c_holds (orpB (mJ M (S + 1 + 1 + 5)) n (mJ M (S + 1 + 1) 1)) (k := e) (by omega) M
  show rn 70 0 [some (.ref S), some (.int (nI e)), some (.int y), none] [] M = _
  cases hb : bt (orpB (mJ M (S + 1 + 1 + 5)) n (mJ M (S + 1 + 1) 1)) e <;> rw [hb] at ho <;> simp only [t70_0, t70_1, t70_4, t70_7, t70_8, t70_9, t70_10, t70_13, t70_16, t70_17, t70_18, t70_19, t70_68, t70_69, t70_72, t70_73, t70_74, t70_75, t70_76, t70_79, t70_80, t70_81, t70_82, t70_83, t70_86, t70_87, t70_88, t70_89, t70_90, t70_93, t70_94, t70_97, t70_100, t70_101, t70_104, t70_105, t70_106, t70_107, t70_110, t70_111, t70_114, t70_117, t70_118, t70_121, t70_122, t70_123, t70_124, t70_127, t70_130, t70_133, t70_134, t70_135, t70_136, t70_137, t70_140, t70_143, t70_146, t70_147, t70_148, t70_149, t70_150, t70_153, t70_154, t70_155, t70_158, t70_159, t70_160, t70_161, t70_164, t70_165, t70_167, t0, t1, t2, t3, t4, ↓reduceIte, K0, P0, q1, q2, q3, q4.1, q5.1, va_rf_s, hl, q, not_true_eq_false, not_false_eq_true, one0, cbn_i, cbn_v, hor, ho, Bool.false_eq_true]
theorem a_ent5 {M : SM} {S n R e : Nat} {w : Nat → Int32} (hC : ClsAt M S) (hN : SR M (S + 1) w n R) (he : e < n) : cl 70 [.ref S, .int (nI e), .int 5] M = some (some (.int (mI M (S + 1 + 7 + 1) e)), M) := by
  obtain ⟨⟨K0, P0, P1, P5, P6⟩, ⟨q1, q2, q3, q4, q5⟩, ⟨KH, PH, KR, RG⟩, TQ, TW⟩ := id hC
  have n40 := hN.1.2.1
  have hsz := hN.1.1
  have one0 : ((1 : Int32) = 0) = False := by decide
  have hl := c_lhas q4 (nI e)
  rw [hsz] at hl
  have q : (nI e < 0 ∨ nI n ≤ nI e) = False := ent_in (by omega) he
  have hin : inR (nI e) 40 = True := i_inT (by omega) (by decide)
  have hce := nI_c (show e < 2147483648 by omega)
  have hor := c_orphans q4 hsz n40
  suffices key : ∀ y : Int32, y = 5 → cl 70 [.ref S, .int (nI e), .int y] M = some (some (.int (mI M (S + 1 + 7 + 1) e)), M) from key _ rfl
  intro y hy
  have t0 : (y = 0) = False := by rw [hy]; decide
  have t1 : (y = 1) = False := by rw [hy]; decide
  have t2 : (y = 2) = False := by rw [hy]; decide
  have t3 : (y = 3) = False := by rw [hy]; decide
  have t4 : (y = 4) = False := by rw [hy]; decide
  have t5 : (y = 5) = True := by rw [hy]; decide
  show rn 70 0 [some (.ref S), some (.int (nI e)), some (.int y), none] [] M = _
  simp only [t70_0, t70_1, t70_4, t70_7, t70_8, t70_9, t70_10, t70_13, t70_16, t70_17, t70_18, t70_19, t70_68, t70_69, t70_72, t70_73, t70_74, t70_75, t70_76, t70_79, t70_80, t70_81, t70_82, t70_83, t70_86, t70_87, t70_88, t70_89, t70_90, t70_93, t70_94, t70_97, t70_100, t70_101, t70_104, t70_105, t70_106, t70_107, t70_110, t70_111, t70_114, t70_117, t70_118, t70_121, t70_122, t70_123, t70_124, t70_127, t70_130, t70_133, t70_134, t70_135, t70_136, t70_137, t70_140, t70_143, t70_146, t70_147, t70_148, t70_149, t70_150, t70_153, t70_154, t70_155, t70_158, t70_159, t70_160, t70_161, t70_164, t70_165, t70_167, t0, t1, t2, t3, t4, t5, ↓reduceIte, K0, P0, q1, q2, q3, q4.1, q5.1, va_rf_s, hl, q, not_true_eq_false, not_false_eq_true, one0, cbn_i, cbn_v, q5.2.1, q5.2.2.2.2.1, true_or, hin, and_self, hce]
theorem a_ent6 {M : SM} {S n R e : Nat} {w : Nat → Int32} (hC : ClsAt M S) (hN : SR M (S + 1) w n R) (he : e < n) : cl 70 [.ref S, .int (nI e), .int 6] M = some (some (.int (mI M (S + 1 + 7 + 2) e)), M) := by
  obtain ⟨⟨K0, P0, P1, P5, P6⟩, ⟨q1, q2, q3, q4, q5⟩, ⟨KH, PH, KR, RG⟩, TQ, TW⟩ := id hC
  have n40 := hN.1.2.1
  have hsz := hN.1.1
  have one0 : ((1 : Int32) = 0) = False := by decide
  have hl := c_lhas q4 (nI e)
  rw [hsz] at hl
  have q : (nI e < 0 ∨ nI n ≤ nI e) = False := ent_in (by omega) he
  have hin : inR (nI e) 40 = True := i_inT (by omega) (by decide)
  have hce := nI_c (show e < 2147483648 by omega)
  have hor := c_orphans q4 hsz n40
  suffices key : ∀ y : Int32, y = 6 → cl 70 [.ref S, .int (nI e), .int y] M = some (some (.int (mI M (S + 1 + 7 + 2) e)), M) from key _ rfl
  intro y hy
  have t0 : (y = 0) = False := by rw [hy]; decide
  have t1 : (y = 1) = False := by rw [hy]; decide
  have t2 : (y = 2) = False := by rw [hy]; decide
  have t3 : (y = 3) = False := by rw [hy]; decide
  have t4 : (y = 4) = False := by rw [hy]; decide
  have t5 : (y = 5) = False := by rw [hy]; decide
  have t6 : (y = 6) = True := by rw [hy]; decide
  show rn 70 0 [some (.ref S), some (.int (nI e)), some (.int y), none] [] M = _
  simp only [t70_0, t70_1, t70_4, t70_7, t70_8, t70_9, t70_10, t70_13, t70_16, t70_17, t70_18, t70_19, t70_68, t70_69, t70_72, t70_73, t70_74, t70_75, t70_76, t70_79, t70_80, t70_81, t70_82, t70_83, t70_86, t70_87, t70_88, t70_89, t70_90, t70_93, t70_94, t70_97, t70_100, t70_101, t70_104, t70_105, t70_106, t70_107, t70_110, t70_111, t70_114, t70_117, t70_118, t70_121, t70_122, t70_123, t70_124, t70_127, t70_130, t70_133, t70_134, t70_135, t70_136, t70_137, t70_140, t70_143, t70_146, t70_147, t70_148, t70_149, t70_150, t70_153, t70_154, t70_155, t70_158, t70_159, t70_160, t70_161, t70_164, t70_165, t70_167, t0, t1, t2, t3, t4, t5, t6, ↓reduceIte, K0, P0, q1, q2, q3, q4.1, q5.1, va_rf_s, hl, q, not_true_eq_false, not_false_eq_true, one0, cbn_i, cbn_v, q5.2.2.1, q5.2.2.2.2.2.1, true_or, hin, and_self, hce]
theorem a_ent7 {M : SM} {S n R e : Nat} {w : Nat → Int32} (hC : ClsAt M S) (hN : SR M (S + 1) w n R) (he : e < n) : cl 70 [.ref S, .int (nI e), .int 7] M = some (some (.int (nI (cnt (bt (mJ M (S + 1 + 1 + 4) e)) 64))), M) := by
  obtain ⟨⟨K0, P0, P1, P5, P6⟩, ⟨q1, q2, q3, q4, q5⟩, ⟨KH, PH, KR, RG⟩, TQ, TW⟩ := id hC
  have n40 := hN.1.2.1
  have hsz := hN.1.1
  have one0 : ((1 : Int32) = 0) = False := by decide
  have hl := c_lhas q4 (nI e)
  rw [hsz] at hl
  have q : (nI e < 0 ∨ nI n ≤ nI e) = False := ent_in (by omega) he
  have hin : inR (nI e) 40 = True := i_inT (by omega) (by decide)
  have hce := nI_c (show e < 2147483648 by omega)
  have hor := c_orphans q4 hsz n40
  suffices key : ∀ y : Int32, y = 7 → cl 70 [.ref S, .int (nI e), .int y] M = some (some (.int (nI (cnt (bt (mJ M (S + 1 + 1 + 4) e)) 64))), M) from key _ rfl
  intro y hy
  have t0 : (y = 0) = False := by rw [hy]; decide
  have t1 : (y = 1) = False := by rw [hy]; decide
  have t2 : (y = 2) = False := by rw [hy]; decide
  have t3 : (y = 3) = False := by rw [hy]; decide
  have t4 : (y = 4) = False := by rw [hy]; decide
  have t5 : (y = 5) = False := by rw [hy]; decide
  have t6 : (y = 6) = False := by rw [hy]; decide
  have t7 : (y = 7) = True := by rw [hy]; decide
  show rn 70 0 [some (.ref S), some (.int (nI e)), some (.int y), none] [] M = _
  simp only [t70_0, t70_1, t70_4, t70_7, t70_8, t70_9, t70_10, t70_13, t70_16, t70_17, t70_18, t70_19, t70_68, t70_69, t70_72, t70_73, t70_74, t70_75, t70_76, t70_79, t70_80, t70_81, t70_82, t70_83, t70_86, t70_87, t70_88, t70_89, t70_90, t70_93, t70_94, t70_97, t70_100, t70_101, t70_104, t70_105, t70_106, t70_107, t70_110, t70_111, t70_114, t70_117, t70_118, t70_121, t70_122, t70_123, t70_124, t70_127, t70_130, t70_133, t70_134, t70_135, t70_136, t70_137, t70_140, t70_143, t70_146, t70_147, t70_148, t70_149, t70_150, t70_153, t70_154, t70_155, t70_158, t70_159, t70_160, t70_161, t70_164, t70_165, t70_167, t0, t1, t2, t3, t4, t5, t6, t7, ↓reduceIte, K0, P0, q1, q2, q3, q4.1, q5.1, va_rf_s, hl, q, not_true_eq_false, not_false_eq_true, one0, cbn_i, cbn_v, q4.2.2.2.2.1, q4.2.2.2.2.2.2.2.2.2.1, c_bitCount, true_or, hin, and_self, hce]
theorem a_ent8 {M : SM} {S n R e : Nat} {w : Nat → Int32} (hC : ClsAt M S) (hN : SR M (S + 1) w n R) (he : e < n) : cl 70 [.ref S, .int (nI e), .int 8] M = some (some (.int (nI (cnt (fun k => decide (e < k) && bt (mJ M (S + 1 + 1 + 5) k) e) n))), M) := by
  obtain ⟨⟨K0, P0, P1, P5, P6⟩, ⟨q1, q2, q3, q4, q5⟩, ⟨KH, PH, KR, RG⟩, TQ, TW⟩ := id hC
  have n40 := hN.1.2.1
  have hsz := hN.1.1
  have one0 : ((1 : Int32) = 0) = False := by decide
  have hl := c_lhas q4 (nI e)
  rw [hsz] at hl
  have q : (nI e < 0 ∨ nI n ≤ nI e) = False := ent_in (by omega) he
  have hin : inR (nI e) 40 = True := i_inT (by omega) (by decide)
  have hce := nI_c (show e < 2147483648 by omega)
  have hor := c_orphans q4 hsz n40
  suffices key : ∀ y : Int32, y = 8 → cl 70 [.ref S, .int (nI e), .int y] M = some (some (.int (nI (cnt (fun k => decide (e < k) && bt (mJ M (S + 1 + 1 + 5) k) e) n))), M) from key _ rfl
  intro y hy
  have t0 : (y = 0) = False := by rw [hy]; decide
  have t1 : (y = 1) = False := by rw [hy]; decide
  have t2 : (y = 2) = False := by rw [hy]; decide
  have t3 : (y = 3) = False := by rw [hy]; decide
  have t4 : (y = 4) = False := by rw [hy]; decide
  have t5 : (y = 5) = False := by rw [hy]; decide
  have t6 : (y = 6) = False := by rw [hy]; decide
  have t7 : (y = 7) = False := by rw [hy]; decide
  have t8 : (y = 8) = True := by rw [hy]; decide
  have hlo := c_leaningOn q4 hsz n40 he
  show rn 70 0 [some (.ref S), some (.int (nI e)), some (.int y), none] [] M = _
  simp only [t70_0, t70_1, t70_4, t70_7, t70_8, t70_9, t70_10, t70_13, t70_16, t70_17, t70_18, t70_19, t70_68, t70_69, t70_72, t70_73, t70_74, t70_75, t70_76, t70_79, t70_80, t70_81, t70_82, t70_83, t70_86, t70_87, t70_88, t70_89, t70_90, t70_93, t70_94, t70_97, t70_100, t70_101, t70_104, t70_105, t70_106, t70_107, t70_110, t70_111, t70_114, t70_117, t70_118, t70_121, t70_122, t70_123, t70_124, t70_127, t70_130, t70_133, t70_134, t70_135, t70_136, t70_137, t70_140, t70_143, t70_146, t70_147, t70_148, t70_149, t70_150, t70_153, t70_154, t70_155, t70_158, t70_159, t70_160, t70_161, t70_164, t70_165, t70_167, t0, t1, t2, t3, t4, t5, t6, t7, t8, ↓reduceIte, K0, P0, q1, q2, q3, q4.1, q5.1, va_rf_s, hl, q, not_true_eq_false, not_false_eq_true, one0, cbn_i, cbn_v, hlo]
theorem a_deps {M : SM} {S n R e : Nat} {w : Nat → Int32} (hC : ClsAt M S) (hN : SR M (S + 1) w n R) (he : e < n) : cl 72 [.ref S, .int (nI e)] M = some (some (.long (mJ M (S + 1 + 1 + 4) e)), M) := by
  obtain ⟨⟨K0, P0, P1, P5, P6⟩, ⟨q1, q2, q3, q4, q5⟩, ⟨KH, PH, KR, RG⟩, TQ, TW⟩ := id hC
  have n40 := hN.1.2.1
  have hsz := hN.1.1
  have one0 : ((1 : Int32) = 0) = False := by decide
  have hl := c_lhas q4 (nI e)
  rw [hsz] at hl
  have q : (nI e < 0 ∨ nI n ≤ nI e) = False := ent_in (by omega) he
  have hin : inR (nI e) 40 = True := i_inT (by omega) (by decide)
  have hce := nI_c (show e < 2147483648 by omega)
  have hor := c_orphans q4 hsz n40
  show rn 72 0 [some (.ref S), some (.int (nI e))] [] M = _
  simp only [t72_0, t72_1, t72_4, t72_7, t72_8, t72_11, t72_14, t72_15, t72_18, t72_21, t72_24, t72_25, t72_26, t72_29, t72_32, K0, P0, q1, q2, q4.1, va_rf_s, hl, q, one0, cbn_i, ↓reduceIte, q4.2.2.2.2.1, q4.2.2.2.2.2.2.2.2.2.1, true_or, hin, and_self, hce]
theorem a_wants {M : SM} {S n R e : Nat} {w : Nat → Int32} (hC : ClsAt M S) (hN : SR M (S + 1) w n R) (he : e < n) : cl 77 [.ref S, .int (nI e)] M = some (some (.long ((mJ M (S + 1 + 1 + 5) e ||| bE e) &&& mJ M (S + 1 + 1) 1)), M) := by
  obtain ⟨⟨K0, P0, P1, P5, P6⟩, ⟨q1, q2, q3, q4, q5⟩, ⟨KH, PH, KR, RG⟩, TQ, TW⟩ := id hC
  have n40 := hN.1.2.1
  have hsz := hN.1.1
  have one0 : ((1 : Int32) = 0) = False := by decide
  have hl := c_lhas q4 (nI e)
  rw [hsz] at hl
  have q : (nI e < 0 ∨ nI n ≤ nI e) = False := ent_in (by omega) he
  have hin : inR (nI e) 40 = True := i_inT (by omega) (by decide)
  have hce := nI_c (show e < 2147483648 by omega)
  have hor := c_orphans q4 hsz n40
  show rn 77 0 [some (.ref S), some (.int (nI e))] [] M = _
  simp only [t77_0, t77_1, t77_4, t77_7, t77_8, t77_11, t77_14, t77_17, t77_18, t77_19, t77_22, t77_25, t77_28, t77_29, t77_30, t77_31, t77_34, t77_35, t77_36, t77_39, t77_42, t77_45, t77_46, K0, P0, q1, q2, q4.1, va_rf_s, hl, q, one0, cbn_i, ↓reduceIte, not_true_eq_false, not_false_eq_true, q4.2.2.2.2.2.1, q4.2.2.2.2.2.2.2.2.2.2, c_bit, true_or, hin, and_self, hce]
theorem c_try {M : SM} {S n R : Nat} {w : Nat → Int32} (hC : ClsAt M S) (hN : SR M (S + 1) w n R) : ∃ j, j ≤ 40 ∧ (∀ i, i < j → ¬ rdM (itR (rClr M (S + 111)) (S + 111) (S + 1 + 1) n i) (S + 111) (S + 1 + 1) n = 0) ∧ rdM (itR (rClr M (S + 111)) (S + 111) (S + 1 + 1) n j) (S + 111) (S + 1 + 1) n = 0 ∧ cl 74 [.ref S] M = some (none, itR (rClr M (S + 111)) (S + 111) (S + 1 + 1) n j) ∧ Fr M (itR (rClr M (S + 111)) (S + 111) (S + 1 + 1) n j) (S + 111) (S + 117) := by
  obtain ⟨⟨K0, P0, P1, P5, P6⟩, ⟨q1, q2, q3, q4, q5⟩, ⟨KH, PH, KR, RG⟩, TQ, TW⟩ := id hC
  have n40 := hN.1.2.1
  have hsz := hN.1.1
  have one0 : ((1 : Int32) = 0) = False := by decide
  have f0 := Fr_rClr M (S + 111)
  have hcl := c_rClear TQ
  have hL2 := LR_fr hN.1 f0 (by omega)
  obtain ⟨j, j1, j2, j3, j4⟩ := c_makeRounds (M := rClr M (S + 111)) (r := S + 111) (h := S + 1 + 1) (TQ.st f0.1) (q4.st f0.1) hL2.1 hL2.2.1 (by omega) hL2.2.2.2.1
  refine ⟨j, j1, j2, it_end hL2.2.1 j2 j3, ?_, f0.trans (Fr_itR _ _ _ _ _)⟩
  show rn 74 0 [some (.ref S)] [] M = _
  simp only [t74_0, t74_1, t74_4, t74_7, t74_8, t74_11, t74_12, t74_15, t74_18, t74_21, t74_22, K0, P0, P5, q1, q2, TQ.1, va_rf_s, hcl, cbn_i, cbn_v, KK f0.1, PK f0.1, j4, ↓reduceIte]
theorem a_depth {M : SM} {S n R e : Nat} {w : Nat → Int32} (hC : ClsAt M S) (hN : SR M (S + 1) w n R) (he : e < n) : ∃ M1 v, cl 73 [.ref S, .int (nI e)] M = some (some (.int v), M1) ∧ Fr M M1 (S + 111) (S + 117) ∧ (live (mJ M (S + 1 + 1 + 5)) (mJ M (S + 1 + 1) 1) e → v = nI (depT (mJ M (S + 1 + 1 + 4)) n e)) ∧ (¬ live (mJ M (S + 1 + 1 + 5)) (mJ M (S + 1 + 1) 1) e → v = -6) := by
  obtain ⟨⟨K0, P0, P1, P5, P6⟩, ⟨q1, q2, q3, q4, q5⟩, ⟨KH, PH, KR, RG⟩, TQ, TW⟩ := id hC
  have n40 := hN.1.2.1
  have hsz := hN.1.1
  have one0 : ((1 : Int32) = 0) = False := by decide
  have hl := c_lhas q4 (nI e)
  rw [hsz] at hl
  have q : (nI e < 0 ∨ nI n ≤ nI e) = False := ent_in (by omega) he
  have hin : inR (nI e) 40 = True := i_inT (by omega) (by decide)
  have hce := nI_c (show e < 2147483648 by omega)
  have hor := c_orphans q4 hsz n40
  obtain ⟨j, j1, -, j2, j3, j4⟩ := c_try hC hN
  have hde := dep_end (r := S + 111) (by omega) hN.1 j1 j2 e he
  obtain ⟨M1, hM1⟩ : ∃ M1, M1 = itR (rClr M (S + 111)) (S + 111) (S + 1 + 1) n j := ⟨_, rfl⟩
  rw [← hM1] at j3 j4 hde
  refine ⟨M1, mI M1 (S + 111 + 1) e, ?_, j4, hde.1, hde.2⟩
  show rn 73 0 [some (.ref S), some (.int (nI e))] [] M = _
  simp only [t73_0, t73_1, t73_4, t73_7, t73_8, t73_11, t73_14, t73_15, t73_16, t73_17, t73_20, t73_21, t73_24, t73_27, t73_28, t73_29, K0, P0, P5, q1, q2, q4.1, va_rf_s, hl, cbn_i, cbn_v, q, one0, ↓reduceIte, not_false_eq_true, j3, KK j4.1, PK j4.1, TQ.1, TQ.2.1, TQ.2.2.2.2.1, true_or, hin, and_self, hce]
theorem a_file0 {M : SM} {S n R f : Nat} {w : Nat → Int32} (hC : ClsAt M S) (hN : SR M (S + 1) w n R) (hf : f < 16) : cl 78 [.ref S, .int (nI f), .int 0] M = some (some (.int (if tV M (S + 1 + 7 + 3) f = -6 then 0 else 1)), M) := by
  obtain ⟨⟨K0, P0, P1, P5, P6⟩, ⟨q1, q2, q3, q4, q5⟩, ⟨KH, PH, KR, RG⟩, TQ, TW⟩ := id hC
  have n40 := hN.1.2.1
  have hsz := hN.1.1
  have one0 : ((1 : Int32) = 0) = False := by decide
  have q5t := q5.2.2.2.2.2.2
  have kt := q5.2.2.2.1
  have q := isF_ok hf
  have hin : inR (nI f) 16 = True := i_inT hf (by decide)
  have hcf := nI_c (show f < 2147483648 by omega)
  have hh := c_has q5t hf
  suffices key : ∀ y : Int32, y = 0 → cl 78 [.ref S, .int (nI f), .int y] M = some (some (.int (if tV M (S + 1 + 7 + 3) f = -6 then 0 else 1)), M) from key _ rfl
  intro y hy
  have t0 : (y = 0) = True := by rw [hy]; decide
  show rn 78 0 [some (.ref S), some (.int (nI f)), some (.int y), none] [] M = _
  by_cases hv : tV M (S + 1 + 7 + 3) f = -6 <;> simp only [hv, ↓reduceIte] at hh ⊢ <;> simp only [t78_0, t78_1, t78_4, t78_7, t78_10, t78_11, t78_12, t78_15, t78_18, t78_19, t78_20, t78_21, t78_60, t78_61, t78_62, t78_65, t78_68, t78_69, t78_72, t78_73, t78_74, t78_75, t78_78, t78_79, t78_80, t78_81, t78_82, t78_85, t78_86, t78_87, t78_88, t78_89, t78_90, t78_93, t78_94, t78_95, t78_96, t78_99, t78_100, t78_101, t78_102, t78_105, t78_106, t78_108, t0, ↓reduceIte, K0, P0, q1, q3, q5.1, kt, q5t.1, va_rf_s, c_isFile, q, not_true_eq_false, not_false_eq_true, one0, cbn_i, cbn_v, hh]
theorem a_file1 {M : SM} {S n R f : Nat} {w : Nat → Int32} (hC : ClsAt M S) (hN : SR M (S + 1) w n R) (hf : f < 16) : cl 78 [.ref S, .int (nI f), .int 1] M = some (some (.int (tD M (S + 1 + 7 + 3) f)), M) := by
  obtain ⟨⟨K0, P0, P1, P5, P6⟩, ⟨q1, q2, q3, q4, q5⟩, ⟨KH, PH, KR, RG⟩, TQ, TW⟩ := id hC
  have n40 := hN.1.2.1
  have hsz := hN.1.1
  have one0 : ((1 : Int32) = 0) = False := by decide
  have q5t := q5.2.2.2.2.2.2
  have kt := q5.2.2.2.1
  have q := isF_ok hf
  have hin : inR (nI f) 16 = True := i_inT hf (by decide)
  have hcf := nI_c (show f < 2147483648 by omega)
  have hh := c_has q5t hf
  suffices key : ∀ y : Int32, y = 1 → cl 78 [.ref S, .int (nI f), .int y] M = some (some (.int (tD M (S + 1 + 7 + 3) f)), M) from key _ rfl
  intro y hy
  have t0 : (y = 0) = False := by rw [hy]; decide
  have t1 : (y = 1) = True := by rw [hy]; decide
  show rn 78 0 [some (.ref S), some (.int (nI f)), some (.int y), none] [] M = _
  simp only [t78_0, t78_1, t78_4, t78_7, t78_10, t78_11, t78_12, t78_15, t78_18, t78_19, t78_20, t78_21, t78_60, t78_61, t78_62, t78_65, t78_68, t78_69, t78_72, t78_73, t78_74, t78_75, t78_78, t78_79, t78_80, t78_81, t78_82, t78_85, t78_86, t78_87, t78_88, t78_89, t78_90, t78_93, t78_94, t78_95, t78_96, t78_99, t78_100, t78_101, t78_102, t78_105, t78_106, t78_108, t0, t1, ↓reduceIte, K0, P0, q1, q3, q5.1, kt, q5t.1, va_rf_s, c_isFile, q, not_true_eq_false, not_false_eq_true, one0, cbn_i, cbn_v, q5t.2.1, q5t.2.2.2.1, true_or, hin, and_self, hcf] <;> rfl
theorem a_file2 {M : SM} {S n R f : Nat} {w : Nat → Int32} (hC : ClsAt M S) (hN : SR M (S + 1) w n R) (hf : f < 16) : cl 78 [.ref S, .int (nI f), .int 2] M = some (some (.int (tV M (S + 1 + 7 + 3) f)), M) := by
  obtain ⟨⟨K0, P0, P1, P5, P6⟩, ⟨q1, q2, q3, q4, q5⟩, ⟨KH, PH, KR, RG⟩, TQ, TW⟩ := id hC
  have n40 := hN.1.2.1
  have hsz := hN.1.1
  have one0 : ((1 : Int32) = 0) = False := by decide
  have q5t := q5.2.2.2.2.2.2
  have kt := q5.2.2.2.1
  have q := isF_ok hf
  have hin : inR (nI f) 16 = True := i_inT hf (by decide)
  have hcf := nI_c (show f < 2147483648 by omega)
  have hh := c_has q5t hf
  suffices key : ∀ y : Int32, y = 2 → cl 78 [.ref S, .int (nI f), .int y] M = some (some (.int (tV M (S + 1 + 7 + 3) f)), M) from key _ rfl
  intro y hy
  have t0 : (y = 0) = False := by rw [hy]; decide
  have t1 : (y = 1) = False := by rw [hy]; decide
  have t2 : (y = 2) = True := by rw [hy]; decide
  show rn 78 0 [some (.ref S), some (.int (nI f)), some (.int y), none] [] M = _
  simp only [t78_0, t78_1, t78_4, t78_7, t78_10, t78_11, t78_12, t78_15, t78_18, t78_19, t78_20, t78_21, t78_60, t78_61, t78_62, t78_65, t78_68, t78_69, t78_72, t78_73, t78_74, t78_75, t78_78, t78_79, t78_80, t78_81, t78_82, t78_85, t78_86, t78_87, t78_88, t78_89, t78_90, t78_93, t78_94, t78_95, t78_96, t78_99, t78_100, t78_101, t78_102, t78_105, t78_106, t78_108, t0, t1, t2, ↓reduceIte, K0, P0, q1, q3, q5.1, kt, q5t.1, va_rf_s, c_isFile, q, not_true_eq_false, not_false_eq_true, one0, cbn_i, cbn_v, q5t.2.2.1, q5t.2.2.2.2, true_or, hin, and_self, hcf] <;> rfl
theorem a_file3 {M : SM} {S n R f : Nat} {w : Nat → Int32} (hC : ClsAt M S) (hN : SR M (S + 1) w n R) (hf : f < 16) : cl 78 [.ref S, .int (nI f), .int 3] M = some (some (.int (m32 (fun g => decide (tD M (S + 1 + 7 + 3) g = nI f)) 16)), M) := by
  obtain ⟨⟨K0, P0, P1, P5, P6⟩, ⟨q1, q2, q3, q4, q5⟩, ⟨KH, PH, KR, RG⟩, TQ, TW⟩ := id hC
  have n40 := hN.1.2.1
  have hsz := hN.1.1
  have one0 : ((1 : Int32) = 0) = False := by decide
  have q5t := q5.2.2.2.2.2.2
  have kt := q5.2.2.2.1
  have q := isF_ok hf
  have hin : inR (nI f) 16 = True := i_inT hf (by decide)
  have hcf := nI_c (show f < 2147483648 by omega)
  have hh := c_has q5t hf
  suffices key : ∀ y : Int32, y = 3 → cl 78 [.ref S, .int (nI f), .int y] M = some (some (.int (m32 (fun g => decide (tD M (S + 1 + 7 + 3) g = nI f)) 16)), M) from key _ rfl
  intro y hy
  have t0 : (y = 0) = False := by rw [hy]; decide
  have t1 : (y = 1) = False := by rw [hy]; decide
  have t2 : (y = 2) = False := by rw [hy]; decide
  have t3 : (y = 3) = True := by rw [hy]; decide
  have hc := c_filesIn q5t (nI f)
  show rn 78 0 [some (.ref S), some (.int (nI f)), some (.int y), none] [] M = _
  simp only [t78_0, t78_1, t78_4, t78_7, t78_10, t78_11, t78_12, t78_15, t78_18, t78_19, t78_20, t78_21, t78_60, t78_61, t78_62, t78_65, t78_68, t78_69, t78_72, t78_73, t78_74, t78_75, t78_78, t78_79, t78_80, t78_81, t78_82, t78_85, t78_86, t78_87, t78_88, t78_89, t78_90, t78_93, t78_94, t78_95, t78_96, t78_99, t78_100, t78_101, t78_102, t78_105, t78_106, t78_108, t0, t1, t2, t3, ↓reduceIte, K0, P0, q1, q3, q5.1, kt, q5t.1, va_rf_s, c_isFile, q, not_true_eq_false, not_false_eq_true, one0, cbn_i, cbn_v, hc]
theorem a_file4 {M : SM} {S n R f : Nat} {w : Nat → Int32} (hC : ClsAt M S) (hN : SR M (S + 1) w n R) (hf : f < 16) : cl 78 [.ref S, .int (nI f), .int 4] M = some (some (.int (if tV M (S + 1 + 7 + 3) f = -6 then -6 else nI (upN (tD M (S + 1 + 7 + 3)) 16 (tD M (S + 1 + 7 + 3) f)))), M) := by
  obtain ⟨⟨K0, P0, P1, P5, P6⟩, ⟨q1, q2, q3, q4, q5⟩, ⟨KH, PH, KR, RG⟩, TQ, TW⟩ := id hC
  have n40 := hN.1.2.1
  have hsz := hN.1.1
  have one0 : ((1 : Int32) = 0) = False := by decide
  have q5t := q5.2.2.2.2.2.2
  have kt := q5.2.2.2.1
  have q := isF_ok hf
  have hin : inR (nI f) 16 = True := i_inT hf (by decide)
  have hcf := nI_c (show f < 2147483648 by omega)
  have hh := c_has q5t hf
  suffices key : ∀ y : Int32, y = 4 → cl 78 [.ref S, .int (nI f), .int y] M = some (some (.int (if tV M (S + 1 + 7 + 3) f = -6 then -6 else nI (upN (tD M (S + 1 + 7 + 3)) 16 (tD M (S + 1 + 7 + 3) f)))), M) from key _ rfl
  intro y hy
  have t0 : (y = 0) = False := by rw [hy]; decide
  have t1 : (y = 1) = False := by rw [hy]; decide
  have t2 : (y = 2) = False := by rw [hy]; decide
  have t3 : (y = 3) = False := by rw [hy]; decide
  have t4 : (y = 4) = True := by rw [hy]; decide
  have hc := c_above q5t hf
  show rn 78 0 [some (.ref S), some (.int (nI f)), some (.int y), none] [] M = _
  simp only [t78_0, t78_1, t78_4, t78_7, t78_10, t78_11, t78_12, t78_15, t78_18, t78_19, t78_20, t78_21, t78_60, t78_61, t78_62, t78_65, t78_68, t78_69, t78_72, t78_73, t78_74, t78_75, t78_78, t78_79, t78_80, t78_81, t78_82, t78_85, t78_86, t78_87, t78_88, t78_89, t78_90, t78_93, t78_94, t78_95, t78_96, t78_99, t78_100, t78_101, t78_102, t78_105, t78_106, t78_108, t0, t1, t2, t3, t4, ↓reduceIte, K0, P0, q1, q3, q5.1, kt, q5t.1, va_rf_s, c_isFile, q, not_true_eq_false, not_false_eq_true, one0, cbn_i, cbn_v, hc]
theorem a_file5 {M : SM} {S n R f : Nat} {w : Nat → Int32} (hC : ClsAt M S) (hN : SR M (S + 1) w n R) (hf : f < 16) : cl 78 [.ref S, .int (nI f), .int 5] M = some (some (.int (nI (cnt (fun g => !decide (nI g = nI f) && lies (tD M (S + 1 + 7 + 3)) 16 (nI g) (nI f)) 16))), M) := by
  obtain ⟨⟨K0, P0, P1, P5, P6⟩, ⟨q1, q2, q3, q4, q5⟩, ⟨KH, PH, KR, RG⟩, TQ, TW⟩ := id hC
  have n40 := hN.1.2.1
  have hsz := hN.1.1
  have one0 : ((1 : Int32) = 0) = False := by decide
  have q5t := q5.2.2.2.2.2.2
  have kt := q5.2.2.2.1
  have q := isF_ok hf
  have hin : inR (nI f) 16 = True := i_inT hf (by decide)
  have hcf := nI_c (show f < 2147483648 by omega)
  have hh := c_has q5t hf
  suffices key : ∀ y : Int32, y = 5 → cl 78 [.ref S, .int (nI f), .int y] M = some (some (.int (nI (cnt (fun g => !decide (nI g = nI f) && lies (tD M (S + 1 + 7 + 3)) 16 (nI g) (nI f)) 16))), M) from key _ rfl
  intro y hy
  have t0 : (y = 0) = False := by rw [hy]; decide
  have t1 : (y = 1) = False := by rw [hy]; decide
  have t2 : (y = 2) = False := by rw [hy]; decide
  have t3 : (y = 3) = False := by rw [hy]; decide
  have t4 : (y = 4) = False := by rw [hy]; decide
  have t5 : (y = 5) = True := by rw [hy]; decide
  have hc := c_below q5t (nI f)
  show rn 78 0 [some (.ref S), some (.int (nI f)), some (.int y), none] [] M = _
  simp only [t78_0, t78_1, t78_4, t78_7, t78_10, t78_11, t78_12, t78_15, t78_18, t78_19, t78_20, t78_21, t78_60, t78_61, t78_62, t78_65, t78_68, t78_69, t78_72, t78_73, t78_74, t78_75, t78_78, t78_79, t78_80, t78_81, t78_82, t78_85, t78_86, t78_87, t78_88, t78_89, t78_90, t78_93, t78_94, t78_95, t78_96, t78_99, t78_100, t78_101, t78_102, t78_105, t78_106, t78_108, t0, t1, t2, t3, t4, t5, ↓reduceIte, K0, P0, q1, q3, q5.1, kt, q5t.1, va_rf_s, c_isFile, q, not_true_eq_false, not_false_eq_true, one0, cbn_i, cbn_v, hc]
theorem a_cnt0 {M : SM} {S n R : Nat} {w : Nat → Int32} (hC : ClsAt M S) (hN : SR M (S + 1) w n R) : cl 84 [.ref S, .int 0] M = some (some (.int (nI n)), M) := by
  obtain ⟨⟨K0, P0, P1, P5, P6⟩, ⟨q1, q2, q3, q4, q5⟩, ⟨KH, PH, KR, RG⟩, TQ, TW⟩ := id hC
  have n40 := hN.1.2.1
  have hsz := hN.1.1
  have one0 : ((1 : Int32) = 0) = False := by decide
  have hor := c_orphans q4 hsz n40
  suffices key : ∀ y : Int32, y = 0 → cl 84 [.ref S, .int y] M = some (some (.int (nI n)), M) from key _ rfl
  intro y hy
  have t0 : (y = 0) = True := by rw [hy]; decide
  show rn 84 0 [some (.ref S), some (.int y)] [] M = _
  simp only [t84_0, t84_1, t84_56, t84_57, t84_60, t84_63, t84_66, t84_67, t84_68, t84_71, t84_74, t84_77, t84_80, t84_81, t84_82, t84_85, t84_88, t84_91, t84_94, t84_95, t84_96, t84_99, t84_102, t84_105, t84_108, t84_109, t84_110, t84_113, t84_116, t84_119, t84_122, t84_123, t84_124, t84_127, t84_130, t84_133, t84_134, t84_135, t84_138, t84_141, t84_144, t84_147, t84_148, t84_149, t84_152, t84_155, t84_158, t84_159, t84_160, t84_163, t84_166, t84_169, t84_170, t84_171, t84_174, t84_177, t84_178, t84_180, t0, ↓reduceIte, K0, P0, q1, q2, q3, q4.1, q5.1, va_rf_s, cbn_i, cbn_v, hsz]
theorem a_cnt1 {M : SM} {S n R : Nat} {w : Nat → Int32} (hC : ClsAt M S) (hN : SR M (S + 1) w n R) : cl 84 [.ref S, .int 1] M = some (some (.int (nI (cnt (bt (mJ M (S + 1 + 1) 1)) 64))), M) := by
  obtain ⟨⟨K0, P0, P1, P5, P6⟩, ⟨q1, q2, q3, q4, q5⟩, ⟨KH, PH, KR, RG⟩, TQ, TW⟩ := id hC
  have n40 := hN.1.2.1
  have hsz := hN.1.1
  have one0 : ((1 : Int32) = 0) = False := by decide
  have hor := c_orphans q4 hsz n40
  suffices key : ∀ y : Int32, y = 1 → cl 84 [.ref S, .int y] M = some (some (.int (nI (cnt (bt (mJ M (S + 1 + 1) 1)) 64))), M) from key _ rfl
  intro y hy
  have t0 : (y = 0) = False := by rw [hy]; decide
  have t1 : (y = 1) = True := by rw [hy]; decide
  show rn 84 0 [some (.ref S), some (.int y)] [] M = _
  simp only [t84_0, t84_1, t84_56, t84_57, t84_60, t84_63, t84_66, t84_67, t84_68, t84_71, t84_74, t84_77, t84_80, t84_81, t84_82, t84_85, t84_88, t84_91, t84_94, t84_95, t84_96, t84_99, t84_102, t84_105, t84_108, t84_109, t84_110, t84_113, t84_116, t84_119, t84_122, t84_123, t84_124, t84_127, t84_130, t84_133, t84_134, t84_135, t84_138, t84_141, t84_144, t84_147, t84_148, t84_149, t84_152, t84_155, t84_158, t84_159, t84_160, t84_163, t84_166, t84_169, t84_170, t84_171, t84_174, t84_177, t84_178, t84_180, t0, t1, ↓reduceIte, K0, P0, q1, q2, q3, q4.1, q5.1, va_rf_s, cbn_i, cbn_v, c_bitCount]
theorem a_cnt2 {M : SM} {S n R : Nat} {w : Nat → Int32} (hC : ClsAt M S) (hN : SR M (S + 1) w n R) : cl 84 [.ref S, .int 2] M = some (some (.int (nI (cnt (bt (orpB (mJ M (S + 1 + 1 + 5)) n (mJ M (S + 1 + 1) 1))) 64))), M) := by
  obtain ⟨⟨K0, P0, P1, P5, P6⟩, ⟨q1, q2, q3, q4, q5⟩, ⟨KH, PH, KR, RG⟩, TQ, TW⟩ := id hC
  have n40 := hN.1.2.1
  have hsz := hN.1.1
  have one0 : ((1 : Int32) = 0) = False := by decide
  have hor := c_orphans q4 hsz n40
  suffices key : ∀ y : Int32, y = 2 → cl 84 [.ref S, .int y] M = some (some (.int (nI (cnt (bt (orpB (mJ M (S + 1 + 1 + 5)) n (mJ M (S + 1 + 1) 1))) 64))), M) from key _ rfl
  intro y hy
  have t0 : (y = 0) = False := by rw [hy]; decide
  have t1 : (y = 1) = False := by rw [hy]; decide
  have t2 : (y = 2) = True := by rw [hy]; decide
  show rn 84 0 [some (.ref S), some (.int y)] [] M = _
  simp only [t84_0, t84_1, t84_56, t84_57, t84_60, t84_63, t84_66, t84_67, t84_68, t84_71, t84_74, t84_77, t84_80, t84_81, t84_82, t84_85, t84_88, t84_91, t84_94, t84_95, t84_96, t84_99, t84_102, t84_105, t84_108, t84_109, t84_110, t84_113, t84_116, t84_119, t84_122, t84_123, t84_124, t84_127, t84_130, t84_133, t84_134, t84_135, t84_138, t84_141, t84_144, t84_147, t84_148, t84_149, t84_152, t84_155, t84_158, t84_159, t84_160, t84_163, t84_166, t84_169, t84_170, t84_171, t84_174, t84_177, t84_178, t84_180, t0, t1, t2, ↓reduceIte, K0, P0, q1, q2, q3, q4.1, q5.1, va_rf_s, cbn_i, cbn_v, hor, c_bitCount]
theorem a_cnt3 {M : SM} {S n R : Nat} {w : Nat → Int32} (hC : ClsAt M S) (hN : SR M (S + 1) w n R) : cl 84 [.ref S, .int 3] M = some (some (.int (nI (cnt (bt (mJ M (S + 1 + 7) 0)) 64))), M) := by
  obtain ⟨⟨K0, P0, P1, P5, P6⟩, ⟨q1, q2, q3, q4, q5⟩, ⟨KH, PH, KR, RG⟩, TQ, TW⟩ := id hC
  have n40 := hN.1.2.1
  have hsz := hN.1.1
  have one0 : ((1 : Int32) = 0) = False := by decide
  have hor := c_orphans q4 hsz n40
  suffices key : ∀ y : Int32, y = 3 → cl 84 [.ref S, .int y] M = some (some (.int (nI (cnt (bt (mJ M (S + 1 + 7) 0)) 64))), M) from key _ rfl
  intro y hy
  have t0 : (y = 0) = False := by rw [hy]; decide
  have t1 : (y = 1) = False := by rw [hy]; decide
  have t2 : (y = 2) = False := by rw [hy]; decide
  have t3 : (y = 3) = True := by rw [hy]; decide
  show rn 84 0 [some (.ref S), some (.int y)] [] M = _
  simp only [t84_0, t84_1, t84_56, t84_57, t84_60, t84_63, t84_66, t84_67, t84_68, t84_71, t84_74, t84_77, t84_80, t84_81, t84_82, t84_85, t84_88, t84_91, t84_94, t84_95, t84_96, t84_99, t84_102, t84_105, t84_108, t84_109, t84_110, t84_113, t84_116, t84_119, t84_122, t84_123, t84_124, t84_127, t84_130, t84_133, t84_134, t84_135, t84_138, t84_141, t84_144, t84_147, t84_148, t84_149, t84_152, t84_155, t84_158, t84_159, t84_160, t84_163, t84_166, t84_169, t84_170, t84_171, t84_174, t84_177, t84_178, t84_180, t0, t1, t2, t3, ↓reduceIte, K0, P0, q1, q2, q3, q4.1, q5.1, va_rf_s, cbn_i, cbn_v, c_bitCount]
theorem a_cnt4 {M : SM} {S n R : Nat} {w : Nat → Int32} (hC : ClsAt M S) (hN : SR M (S + 1) w n R) : cl 84 [.ref S, .int 4] M = some (some (.int (nI (cnt (bt (mJ M (S + 1 + 7) 1)) 64))), M) := by
  obtain ⟨⟨K0, P0, P1, P5, P6⟩, ⟨q1, q2, q3, q4, q5⟩, ⟨KH, PH, KR, RG⟩, TQ, TW⟩ := id hC
  have n40 := hN.1.2.1
  have hsz := hN.1.1
  have one0 : ((1 : Int32) = 0) = False := by decide
  have hor := c_orphans q4 hsz n40
  suffices key : ∀ y : Int32, y = 4 → cl 84 [.ref S, .int y] M = some (some (.int (nI (cnt (bt (mJ M (S + 1 + 7) 1)) 64))), M) from key _ rfl
  intro y hy
  have t0 : (y = 0) = False := by rw [hy]; decide
  have t1 : (y = 1) = False := by rw [hy]; decide
  have t2 : (y = 2) = False := by rw [hy]; decide
  have t3 : (y = 3) = False := by rw [hy]; decide
  have t4 : (y = 4) = True := by rw [hy]; decide
  show rn 84 0 [some (.ref S), some (.int y)] [] M = _
  simp only [t84_0, t84_1, t84_56, t84_57, t84_60, t84_63, t84_66, t84_67, t84_68, t84_71, t84_74, t84_77, t84_80, t84_81, t84_82, t84_85, t84_88, t84_91, t84_94, t84_95, t84_96, t84_99, t84_102, t84_105, t84_108, t84_109, t84_110, t84_113, t84_116, t84_119, t84_122, t84_123, t84_124, t84_127, t84_130, t84_133, t84_134, t84_135, t84_138, t84_141, t84_144, t84_147, t84_148, t84_149, t84_152, t84_155, t84_158, t84_159, t84_160, t84_163, t84_166, t84_169, t84_170, t84_171, t84_174, t84_177, t84_178, t84_180, t0, t1, t2, t3, t4, ↓reduceIte, K0, P0, q1, q2, q3, q4.1, q5.1, va_rf_s, cbn_i, cbn_v, c_bitCount]
theorem a_cnt5 {M : SM} {S n R : Nat} {w : Nat → Int32} (hC : ClsAt M S) (hN : SR M (S + 1) w n R) : cl 84 [.ref S, .int 5] M = some (some (.int (mI M (S + 1 + 7) 2)), M) := by
  obtain ⟨⟨K0, P0, P1, P5, P6⟩, ⟨q1, q2, q3, q4, q5⟩, ⟨KH, PH, KR, RG⟩, TQ, TW⟩ := id hC
  have n40 := hN.1.2.1
  have hsz := hN.1.1
  have one0 : ((1 : Int32) = 0) = False := by decide
  have hor := c_orphans q4 hsz n40
  suffices key : ∀ y : Int32, y = 5 → cl 84 [.ref S, .int y] M = some (some (.int (mI M (S + 1 + 7) 2)), M) from key _ rfl
  intro y hy
  have t0 : (y = 0) = False := by rw [hy]; decide
  have t1 : (y = 1) = False := by rw [hy]; decide
  have t2 : (y = 2) = False := by rw [hy]; decide
  have t3 : (y = 3) = False := by rw [hy]; decide
  have t4 : (y = 4) = False := by rw [hy]; decide
  have t5 : (y = 5) = True := by rw [hy]; decide
  show rn 84 0 [some (.ref S), some (.int y)] [] M = _
  simp only [t84_0, t84_1, t84_56, t84_57, t84_60, t84_63, t84_66, t84_67, t84_68, t84_71, t84_74, t84_77, t84_80, t84_81, t84_82, t84_85, t84_88, t84_91, t84_94, t84_95, t84_96, t84_99, t84_102, t84_105, t84_108, t84_109, t84_110, t84_113, t84_116, t84_119, t84_122, t84_123, t84_124, t84_127, t84_130, t84_133, t84_134, t84_135, t84_138, t84_141, t84_144, t84_147, t84_148, t84_149, t84_152, t84_155, t84_158, t84_159, t84_160, t84_163, t84_166, t84_169, t84_170, t84_171, t84_174, t84_177, t84_178, t84_180, t0, t1, t2, t3, t4, t5, ↓reduceIte, K0, P0, q1, q2, q3, q4.1, q5.1, va_rf_s, cbn_i, cbn_v, true_and]
theorem a_cnt6 {M : SM} {S n R : Nat} {w : Nat → Int32} (hC : ClsAt M S) (hN : SR M (S + 1) w n R) : cl 84 [.ref S, .int 6] M = some (some (.int (nI (cnt (fun f => !decide (tV M (S + 1 + 7 + 3) f = -6)) 16))), M) := by
  obtain ⟨⟨K0, P0, P1, P5, P6⟩, ⟨q1, q2, q3, q4, q5⟩, ⟨KH, PH, KR, RG⟩, TQ, TW⟩ := id hC
  have n40 := hN.1.2.1
  have hsz := hN.1.1
  have one0 : ((1 : Int32) = 0) = False := by decide
  have hor := c_orphans q4 hsz n40
  suffices key : ∀ y : Int32, y = 6 → cl 84 [.ref S, .int y] M = some (some (.int (nI (cnt (fun f => !decide (tV M (S + 1 + 7 + 3) f = -6)) 16))), M) from key _ rfl
  intro y hy
  have t0 : (y = 0) = False := by rw [hy]; decide
  have t1 : (y = 1) = False := by rw [hy]; decide
  have t2 : (y = 2) = False := by rw [hy]; decide
  have t3 : (y = 3) = False := by rw [hy]; decide
  have t4 : (y = 4) = False := by rw [hy]; decide
  have t5 : (y = 5) = False := by rw [hy]; decide
  have t6 : (y = 6) = True := by rw [hy]; decide
  have ht := c_tSize q5.2.2.2.2.2.2
  show rn 84 0 [some (.ref S), some (.int y)] [] M = _
  simp only [t84_0, t84_1, t84_56, t84_57, t84_60, t84_63, t84_66, t84_67, t84_68, t84_71, t84_74, t84_77, t84_80, t84_81, t84_82, t84_85, t84_88, t84_91, t84_94, t84_95, t84_96, t84_99, t84_102, t84_105, t84_108, t84_109, t84_110, t84_113, t84_116, t84_119, t84_122, t84_123, t84_124, t84_127, t84_130, t84_133, t84_134, t84_135, t84_138, t84_141, t84_144, t84_147, t84_148, t84_149, t84_152, t84_155, t84_158, t84_159, t84_160, t84_163, t84_166, t84_169, t84_170, t84_171, t84_174, t84_177, t84_178, t84_180, t0, t1, t2, t3, t4, t5, t6, ↓reduceIte, K0, P0, q1, q2, q3, q4.1, q5.1, va_rf_s, cbn_i, cbn_v, q5.2.2.2.1, q5.2.2.2.2.2.2.1, ht]
theorem a_cnt7 {M : SM} {S n R : Nat} {w : Nat → Int32} (hC : ClsAt M S) (hN : SR M (S + 1) w n R) : cl 84 [.ref S, .int 7] M = some (some (.int (mI M (S + 1 + 7) 3)), M) := by
  obtain ⟨⟨K0, P0, P1, P5, P6⟩, ⟨q1, q2, q3, q4, q5⟩, ⟨KH, PH, KR, RG⟩, TQ, TW⟩ := id hC
  have n40 := hN.1.2.1
  have hsz := hN.1.1
  have one0 : ((1 : Int32) = 0) = False := by decide
  have hor := c_orphans q4 hsz n40
  suffices key : ∀ y : Int32, y = 7 → cl 84 [.ref S, .int y] M = some (some (.int (mI M (S + 1 + 7) 3)), M) from key _ rfl
  intro y hy
  have t0 : (y = 0) = False := by rw [hy]; decide
  have t1 : (y = 1) = False := by rw [hy]; decide
  have t2 : (y = 2) = False := by rw [hy]; decide
  have t3 : (y = 3) = False := by rw [hy]; decide
  have t4 : (y = 4) = False := by rw [hy]; decide
  have t5 : (y = 5) = False := by rw [hy]; decide
  have t6 : (y = 6) = False := by rw [hy]; decide
  have t7 : (y = 7) = True := by rw [hy]; decide
  show rn 84 0 [some (.ref S), some (.int y)] [] M = _
  simp only [t84_0, t84_1, t84_56, t84_57, t84_60, t84_63, t84_66, t84_67, t84_68, t84_71, t84_74, t84_77, t84_80, t84_81, t84_82, t84_85, t84_88, t84_91, t84_94, t84_95, t84_96, t84_99, t84_102, t84_105, t84_108, t84_109, t84_110, t84_113, t84_116, t84_119, t84_122, t84_123, t84_124, t84_127, t84_130, t84_133, t84_134, t84_135, t84_138, t84_141, t84_144, t84_147, t84_148, t84_149, t84_152, t84_155, t84_158, t84_159, t84_160, t84_163, t84_166, t84_169, t84_170, t84_171, t84_174, t84_177, t84_178, t84_180, t0, t1, t2, t3, t4, t5, t6, t7, ↓reduceIte, K0, P0, q1, q2, q3, q4.1, q5.1, va_rf_s, cbn_i, cbn_v, true_and]
theorem a_set0 {M : SM} {S n R : Nat} {w : Nat → Int32} (hC : ClsAt M S) (hN : SR M (S + 1) w n R) : cl 86 [.ref S, .int 0] M = some (some (.long (mJ M (S + 1 + 1) 1)), M) := by
  obtain ⟨⟨K0, P0, P1, P5, P6⟩, ⟨q1, q2, q3, q4, q5⟩, ⟨KH, PH, KR, RG⟩, TQ, TW⟩ := id hC
  have n40 := hN.1.2.1
  have hsz := hN.1.1
  have one0 : ((1 : Int32) = 0) = False := by decide
  have hor := c_orphans q4 hsz n40
  suffices key : ∀ y : Int32, y = 0 → cl 86 [.ref S, .int y] M = some (some (.long (mJ M (S + 1 + 1) 1)), M) from key _ rfl
  intro y hy
  have t0 : (y = 0) = True := by rw [hy]; decide
  show rn 86 0 [some (.ref S), some (.int y)] [] M = _
  simp only [t86_0, t86_1, t86_36, t86_37, t86_40, t86_43, t86_46, t86_47, t86_48, t86_51, t86_54, t86_57, t86_58, t86_59, t86_62, t86_65, t86_68, t86_69, t86_70, t86_73, t86_76, t86_79, t86_80, t86_81, t86_84, t86_87, t86_88, t86_91, t86_94, t86_97, t86_98, t86_101, t0, ↓reduceIte, K0, P0, q1, q2, q3, q4.1, q5.1, va_rf_s, cbn_i, cbn_v, true_and]
theorem a_set1 {M : SM} {S n R : Nat} {w : Nat → Int32} (hC : ClsAt M S) (hN : SR M (S + 1) w n R) : cl 86 [.ref S, .int 1] M = some (some (.long (orpB (mJ M (S + 1 + 1 + 5)) n (mJ M (S + 1 + 1) 1))), M) := by
  obtain ⟨⟨K0, P0, P1, P5, P6⟩, ⟨q1, q2, q3, q4, q5⟩, ⟨KH, PH, KR, RG⟩, TQ, TW⟩ := id hC
  have n40 := hN.1.2.1
  have hsz := hN.1.1
  have one0 : ((1 : Int32) = 0) = False := by decide
  have hor := c_orphans q4 hsz n40
  suffices key : ∀ y : Int32, y = 1 → cl 86 [.ref S, .int y] M = some (some (.long (orpB (mJ M (S + 1 + 1 + 5)) n (mJ M (S + 1 + 1) 1))), M) from key _ rfl
  intro y hy
  have t0 : (y = 0) = False := by rw [hy]; decide
  have t1 : (y = 1) = True := by rw [hy]; decide
  show rn 86 0 [some (.ref S), some (.int y)] [] M = _
  simp only [t86_0, t86_1, t86_36, t86_37, t86_40, t86_43, t86_46, t86_47, t86_48, t86_51, t86_54, t86_57, t86_58, t86_59, t86_62, t86_65, t86_68, t86_69, t86_70, t86_73, t86_76, t86_79, t86_80, t86_81, t86_84, t86_87, t86_88, t86_91, t86_94, t86_97, t86_98, t86_101, t0, t1, ↓reduceIte, K0, P0, q1, q2, q3, q4.1, q5.1, va_rf_s, cbn_i, cbn_v, hor]
theorem a_set2 {M : SM} {S n R : Nat} {w : Nat → Int32} (hC : ClsAt M S) (hN : SR M (S + 1) w n R) : cl 86 [.ref S, .int 2] M = some (some (.long (mJ M (S + 1 + 7) 0)), M) := by
  obtain ⟨⟨K0, P0, P1, P5, P6⟩, ⟨q1, q2, q3, q4, q5⟩, ⟨KH, PH, KR, RG⟩, TQ, TW⟩ := id hC
  have n40 := hN.1.2.1
  have hsz := hN.1.1
  have one0 : ((1 : Int32) = 0) = False := by decide
  have hor := c_orphans q4 hsz n40
  suffices key : ∀ y : Int32, y = 2 → cl 86 [.ref S, .int y] M = some (some (.long (mJ M (S + 1 + 7) 0)), M) from key _ rfl
  intro y hy
  have t0 : (y = 0) = False := by rw [hy]; decide
  have t1 : (y = 1) = False := by rw [hy]; decide
  have t2 : (y = 2) = True := by rw [hy]; decide
  show rn 86 0 [some (.ref S), some (.int y)] [] M = _
  simp only [t86_0, t86_1, t86_36, t86_37, t86_40, t86_43, t86_46, t86_47, t86_48, t86_51, t86_54, t86_57, t86_58, t86_59, t86_62, t86_65, t86_68, t86_69, t86_70, t86_73, t86_76, t86_79, t86_80, t86_81, t86_84, t86_87, t86_88, t86_91, t86_94, t86_97, t86_98, t86_101, t0, t1, t2, ↓reduceIte, K0, P0, q1, q2, q3, q4.1, q5.1, va_rf_s, cbn_i, cbn_v, true_and]
theorem a_set3 {M : SM} {S n R : Nat} {w : Nat → Int32} (hC : ClsAt M S) (hN : SR M (S + 1) w n R) : cl 86 [.ref S, .int 3] M = some (some (.long (mJ M (S + 1 + 7) 1)), M) := by
  obtain ⟨⟨K0, P0, P1, P5, P6⟩, ⟨q1, q2, q3, q4, q5⟩, ⟨KH, PH, KR, RG⟩, TQ, TW⟩ := id hC
  have n40 := hN.1.2.1
  have hsz := hN.1.1
  have one0 : ((1 : Int32) = 0) = False := by decide
  have hor := c_orphans q4 hsz n40
  suffices key : ∀ y : Int32, y = 3 → cl 86 [.ref S, .int y] M = some (some (.long (mJ M (S + 1 + 7) 1)), M) from key _ rfl
  intro y hy
  have t0 : (y = 0) = False := by rw [hy]; decide
  have t1 : (y = 1) = False := by rw [hy]; decide
  have t2 : (y = 2) = False := by rw [hy]; decide
  have t3 : (y = 3) = True := by rw [hy]; decide
  show rn 86 0 [some (.ref S), some (.int y)] [] M = _
  simp only [t86_0, t86_1, t86_36, t86_37, t86_40, t86_43, t86_46, t86_47, t86_48, t86_51, t86_54, t86_57, t86_58, t86_59, t86_62, t86_65, t86_68, t86_69, t86_70, t86_73, t86_76, t86_79, t86_80, t86_81, t86_84, t86_87, t86_88, t86_91, t86_94, t86_97, t86_98, t86_101, t0, t1, t2, t3, ↓reduceIte, K0, P0, q1, q2, q3, q4.1, q5.1, va_rf_s, cbn_i, cbn_v, true_and]
theorem a_set4 {M : SM} {S n R : Nat} {w : Nat → Int32} (hC : ClsAt M S) (hN : SR M (S + 1) w n R) : cl 86 [.ref S, .int 4] M = some (some (.long (rdyB (mJ M (S + 1 + 1 + 4)) n (mJ M (S + 1 + 1) 1) (mJ M (S + 1 + 7) 0))), M) := by
  obtain ⟨⟨K0, P0, P1, P5, P6⟩, ⟨q1, q2, q3, q4, q5⟩, ⟨KH, PH, KR, RG⟩, TQ, TW⟩ := id hC
  have n40 := hN.1.2.1
  have hsz := hN.1.1
  have one0 : ((1 : Int32) = 0) = False := by decide
  have hor := c_orphans q4 hsz n40
  suffices key : ∀ y : Int32, y = 4 → cl 86 [.ref S, .int y] M = some (some (.long (rdyB (mJ M (S + 1 + 1 + 4)) n (mJ M (S + 1 + 1) 1) (mJ M (S + 1 + 7) 0))), M) from key _ rfl
  intro y hy
  have t0 : (y = 0) = False := by rw [hy]; decide
  have t1 : (y = 1) = False := by rw [hy]; decide
  have t2 : (y = 2) = False := by rw [hy]; decide
  have t3 : (y = 3) = False := by rw [hy]; decide
  have t4 : (y = 4) = True := by rw [hy]; decide
  have hrd := c_ready q5 q4 hsz n40
  show rn 86 0 [some (.ref S), some (.int y)] [] M = _
  simp only [t86_0, t86_1, t86_36, t86_37, t86_40, t86_43, t86_46, t86_47, t86_48, t86_51, t86_54, t86_57, t86_58, t86_59, t86_62, t86_65, t86_68, t86_69, t86_70, t86_73, t86_76, t86_79, t86_80, t86_81, t86_84, t86_87, t86_88, t86_91, t86_94, t86_97, t86_98, t86_101, t0, t1, t2, t3, t4, ↓reduceIte, K0, P0, q1, q2, q3, q4.1, q5.1, va_rf_s, cbn_i, cbn_v, hrd]
