/-! the law's tree -/
/-- the law's row of a tree of six files -/
def TrR (T D V : Nat → Int32) : Prop := ∀ f, f < 6 → T (2 * f) = (if V f = -6 then -9 else D f) ∧ T (2 * f + 1) = (if V f = -6 then -9 else V f)
/-- no file from six on -/
def Six (V : Nat → Int32) : Prop := ∀ f, 6 ≤ f → f < 16 → V f = -6
theorem c_root3 {M : SM} {t : Nat} (hk : mK M t = (1, 12)) : ∃ T, cl 64 [.ref t] M = some (none, sI M t T) ∧ TrR T D0 V0 := by
  refine ⟨va_up (va_up (fl (mI M t) 12 (-9)) 0 (-6)) 1 0, ?_, ?_⟩
  · show rn 64 0 [some (.ref t), none] [] M = _
    have lp : ∀ k, k ≤ 12 → rn 64 2 [some (.ref t), some (.int (nI k))] [] (sI M t (fl (mI M t) k (-9))) = some (none, sI M t (va_up (va_up (fl (mI M t) 12 (-9)) 0 (-6)) 1 0)) := by
      refine loopB ?_ ?_
      · rw [t64_2]
        simp only [t64_0, t64_1, t64_3, t64_5, t64_8, t64_9, t64_10, t64_12, t64_13, t64_16, t64_19, t64_20, t64_21, t64_23, t64_24, t64_25, t64_26, t64_27, t64_28, le12 (show 12 ≤ 1000000 by omega), Nat.le_refl, ↓reduceIte, mK_sI, hk, i012, i112, and_self, z0, z1, mI_sI, sI_sI]
      · intro k hk' ih
        rw [t64_2]
        simp only [t64_0, t64_1, t64_3, t64_5, t64_8, t64_9, t64_10, t64_12, t64_13, t64_16, t64_19, t64_20, t64_21, t64_23, t64_24, t64_25, t64_26, t64_27, t64_28, le12 (show k ≤ 1000000 by omega), show ¬ 12 ≤ k by omega, ↓reduceIte, mK_sI, hk, iT (show k < 12 by omega) (by decide), and_self, cN (show k ≤ 1000000 by omega), mI_sI, sI_sI, fl_up, n1]
        exact ih
    have h0 := lp 0 (by decide)
    rw [fl_0, sI_self] at h0
    simp only [t64_0, t64_1, t64_3, t64_5, t64_8, t64_9, t64_10, t64_12, t64_13, t64_16, t64_19, t64_20, t64_21, t64_23, t64_24, t64_25, t64_26, t64_27, t64_28]
    exact h0
  · intro f hf
    unfold D0 V0
    by_cases q : f = 0
    · subst q
      constructor
      · rw [va_up_ne _ _ (by omega), show 2 * 0 = 0 from rfl, va_up_self]; rfl
      · rw [show 2 * 0 + 1 = 1 from rfl, va_up_self]; rfl
    · have h6 : (if f = 0 then (0 : Int32) else -6) = -6 := if_neg q
      simp only [h6, ↓reduceIte]
      constructor
      · rw [va_up_ne _ _ (by omega), va_up_ne _ _ (by omega)]
        unfold fl; rw [if_pos (by omega)]
      · rw [va_up_ne _ _ (by omega), va_up_ne _ _ (by omega)]
        unfold fl; rw [if_pos (by omega)]
theorem Six0 : Six V0 := fun f h1 _ => if_neg (by omega)
theorem r_k2 : ∀ kd, kd < 4 → nI kd - nI kd / 2 * 2 = nI (kd % 2) := by decide +kernel
theorem k_e : ∀ kd, kd < 4 → (nI kd = 0) = (kd = 0) ∧ (nI kd = 1) = (kd = 1) ∧ (nI kd = 2) = (kd = 2) ∧ (nI kd = 3) = (kd = 3) ∧ (nI (kd % 2) = 0) = (kd = 0 ∨ kd = 2) := by
  intro kd h
  match kd, h with
  | 0, _ => decide
  | 1, _ => decide
  | 2, _ => decide
  | 3, _ => decide
theorem ne9 {j : Nat} (h : j < 16) : (nI j = -9) = False := eq_false ((by decide +kernel : ∀ j, j < 16 → ¬ nI j = -9) j h)
/-- a file that is there: its directory -/
theorem dir_of {D V : Nat → Int32} (hI : TI D V) (h6 : Six V) {f : Nat} (hf : f < 16) (hv : ¬ V f = -6) : D f = -6 ∨ ∃ p, p < 6 ∧ D f = nI p ∧ ¬ V p = -6 := by
  obtain ⟨i1, i2, i3, i4, i5⟩ := hI
  rcases Nat.eq_zero_or_pos f with h | h
  · subst h; exact Or.inl i1
  · obtain ⟨p, hp, e, hv'⟩ := i4 f h hf hv
    refine Or.inr ⟨p, ?_, e, hv'⟩
    rcases Nat.lt_or_ge p 6 with q | q
    · exact q
    · exact absurd (h6 p q hp) hv'
theorem dir9 {D V : Nat → Int32} (hI : TI D V) (h6 : Six V) {f : Nat} (hf : f < 16) (hv : ¬ V f = -6) : (D f = -9) = False := by
  rcases dir_of hI h6 hf hv with h | ⟨p, hp, h, -⟩
  · rw [h]; decide
  · rw [h]; exact ne9 (by omega)
theorem m32_ne {p : Nat → Bool} {k n : Nat} (hn : n ≤ 32) (hk : k < n) (h : p k = true) : ¬ m32 p n = 0 := fun e => by
  have := b3_m32 p n k hn
  rw [e, b3_0, h] at this
  simp [hk] at this
/-- up the directories: is it the file, or does it lie in it -/
theorem c_chain3 {M : SM} {t : Nat} {D V : Nat → Int32} (hk : mK M t = (1, 12)) (hT : TrR (mI M t) D V) (hI : TI D V) (h6 : Six V) {f : Nat} (hf : f < 6) (a0 a1 a3 a5 a6 : Option Value) : ∀ (m : Nat) (a : Int32), trm D (m + 1) a → (a = -6 ∨ ∃ j, j < 6 ∧ a = nI j ∧ ¬ V j = -6) →
    rn 67 94 [a0, a1, some (.ref t), a3, some (.int (nI f)), a5, a6, some (.int a)] [] M = if lies D m a (nI f) = true then some (some (.int 4), M) else rn 67 119 [a0, a1, some (.ref t), a3, some (.int (nI f)), a5, a6, some (.int (-6))] [] M := by
  intro m
  induction m with
  | zero =>
    intro a h _
    rcases h with rfl | ⟨-, h⟩
    · have e : ((-6 : Int32) < 0) = True := by decide
      rw [t67_94]
      simp only [t67_96, e, ↓reduceIte, lies, Bool.false_eq_true]
    · exact h.elim
  | succ m ih =>
    intro a h ha
    rcases ha with rfl | ⟨j, hj, rfl, hv⟩
    · have e : ((-6 : Int32) < 0) = True := by decide
      rw [t67_94]
      simp only [t67_96, e, ↓reduceIte, lies, f6, Bool.false_eq_true]
    · have h2 : trm D (m + 1) (D j) := by
        rcases h with h | ⟨-, h⟩
        · exact absurd h (of_eq_false (nI_m6 (by omega)))
        · rwa [cN (show j ≤ 1000000 by omega)] at h
      have ih := ih (D j) h2 (dir_of hI h6 (by omega) hv)
      obtain ⟨t1, -⟩ := hT j hj
      rw [if_neg hv] at t1
      rw [t67_94]
      by_cases q : j = f
      · subst q
        simp only [t67_96, l0 (show j ≤ 1000000 by omega), t67_99, t67_101, t67_103, t67_106, t67_107, not_true_eq_false, ↓reduceIte, lies, isF_n (show j < 16 by omega)]
      · have qn : (nI j = nI f) = False := by rw [nI_inj (by omega) (by omega)]; exact eq_false q
        simp only [t67_96, l0 (show j ≤ 1000000 by omega), t67_99, t67_101, t67_103, t67_108, t67_109, t67_110, t67_112, t67_113, t67_114, t67_116, qn, not_false_eq_true, ↓reduceIte, lies, isF_n (show j < 16 by omega), x2, hk, true_or, iT (show 2 * j < 12 by omega) (by decide), and_self, cN (show 2 * j ≤ 1000000 by omega), cN (show j ≤ 1000000 by omega), t1]
        exact ih
/-- does some file lie in it -/
theorem c_in3 {M : SM} {t : Nat} {D V : Nat → Int32} (hk : mK M t = (1, 12)) (hT : TrR (mI M t) D V) (hI : TI D V) (h6 : Six V) {f : Nat} (hf : f < 6) (a0 a1 a3 a5 a6 : Option Value) : ∀ k, k ≤ 6 → 1 ≤ k →
    ((∃ g, k ≤ g ∧ g < 6 ∧ D g = nI f) → rn 67 127 [a0, a1, some (.ref t), a3, some (.int (nI f)), a5, a6, some (.int (nI k))] [] M = some (some (.int 5), M)) ∧
    (¬ (∃ g, k ≤ g ∧ g < 6 ∧ D g = nI f) → rn 67 127 [a0, a1, some (.ref t), a3, some (.int (nI f)), a5, a6, some (.int (nI k))] [] M = rn 67 153 [a0, a1, some (.ref t), a3, some (.int (nI f)), a5, a6, some (.int (nI 6))] [] M) := by
  have le6 : ∀ k, k ≤ 6 → ((6 : Int32) ≤ nI k) = (6 ≤ k) := fun k hk => i_le (a := 6) (by decide) (by omega)
  have e9 : ((-9 : Int32) = nI f) = False := eq_false (fun h => of_eq_false (ne9 (j := f) (by omega)) h.symm)
  refine loopB ?_ ?_
  · intro _
    refine ⟨fun ⟨g, h1, h2, _⟩ => by omega, fun _ => ?_⟩
    rw [t67_127]
    simp only [t67_129, t67_131, le6 6 (by omega), Nat.le_refl, ↓reduceIte]
  · intro k hlt ih h1
    obtain ⟨ih1, ih2⟩ := ih (by omega)
    obtain ⟨t1, -⟩ := hT k hlt
    have hst : mI M t (2 * k) = nI f ↔ D k = nI f := by
      rw [t1]
      by_cases hv : V k = -6
      · rw [if_pos hv, hI.2.2.1 k (by omega) hv]
        have : ((-6 : Int32) = nI f) = False := eq_false (fun h => of_eq_false (nI_m6 (k := f) (by omega)) h.symm)
        rw [e9, this]
      · rw [if_neg hv]
    by_cases q : D k = nI f
    · refine ⟨fun _ => ?_, fun h => absurd ⟨k, Nat.le_refl _, hlt, q⟩ h⟩
      rw [t67_127]
      simp only [t67_129, t67_131, le6 k (by omega), show ¬ 6 ≤ k by omega, t67_134, t67_135, t67_136, t67_138, t67_139, t67_140, t67_142, t67_145, t67_146, ↓reduceIte, x2, hk, true_or, iT (show 2 * k < 12 by omega) (by decide), and_self, cN (show 2 * k ≤ 1000000 by omega), hst.mpr q, not_true_eq_false]
    · have hs : rn 67 127 [a0, a1, some (.ref t), a3, some (.int (nI f)), a5, a6, some (.int (nI k))] [] M = rn 67 127 [a0, a1, some (.ref t), a3, some (.int (nI f)), a5, a6, some (.int (nI (k + 1)))] [] M := by
        rw [t67_127]
        simp only [t67_129, t67_131, le6 k (by omega), show ¬ 6 ≤ k by omega, t67_134, t67_135, t67_136, t67_138, t67_139, t67_140, t67_142, t67_147, t67_150, ↓reduceIte, x2, hk, true_or, iT (show 2 * k < 12 by omega) (by decide), and_self, cN (show 2 * k ≤ 1000000 by omega), eq_false (fun h => q (hst.mp h)), not_false_eq_true, n1]
      rw [hs]
      refine ⟨fun ⟨g, h1, h2, h3⟩ => ih1 ?_, fun h => ih2 fun ⟨g, h1, h2, h3⟩ => h ⟨g, by omega, h2, h3⟩⟩
      by_cases z : g = k
      · subst z; exact absurd h3 q
      · exact ⟨g, by omega, h2, h3⟩
theorem in_m32 {D V : Nat → Int32} (hI : TI D V) (h6 : Six V) {f : Nat} (hf : f < 6) : (∃ g, 1 ≤ g ∧ g < 6 ∧ D g = nI f) ↔ ¬ m32 (fun g => decide (D g = nI f)) 16 = 0 := by
  constructor
  · rintro ⟨g, _, h2, h3⟩
    exact m32_ne (by decide) (show g < 16 by omega) (by simp [h3])
  · intro h
    by_cases q : ∃ g, 1 ≤ g ∧ g < 6 ∧ D g = nI f
    · exact q
    · exfalso
      apply h
      have : m32 (fun g => decide (D g = nI f)) 16 = m32 (fun _ => false) 16 := m32_cong fun g hg => by
        rw [decide_eq_false_iff_not]
        intro e
        by_cases hv : V g = -6
        · rw [hI.2.2.1 g hg hv] at e
          exact of_eq_false (nI_m6 (k := f) (by omega)) e.symm
        · rcases Nat.eq_zero_or_pos g with z | z
          · subst z; rw [hI.1] at e; exact of_eq_false (nI_m6 (k := f) (by omega)) e.symm
          · rcases Nat.lt_or_ge g 6 with y | y
            · exact q ⟨g, z, y, e⟩
            · exact hv (h6 g y hg)
      rw [this]; decide
/-- what an entry of the law's holds -/
def okS (kd f : Nat) (a : Int32) : Prop := okE kd f a ∧ f < 6 ∧ ((kd = 0 ∨ kd = 2) → ∃ j, j < 6 ∧ a = nI j)
theorem c_play3 {M : SM} {E t e kd f : Nat} {a : Int32} {D V : Nat → Int32} (hE : mK M E = (1, 60)) (hk : mK M t = (1, 12)) (he : e < 12) (e0 : mI M E (5 * e) = nI kd) (e1 : mI M E (5 * e + 1) = nI f) (e2 : mI M E (5 * e + 2) = a) (ho : okS kd f a) (hT : TrR (mI M t) D V) (hI : TI D V) (h6 : Six V) :
    ∃ T, cl 67 [.int (nI e), .ref E, .ref t] M = some (some (.int (rfs D V kd f a)), sI M t T) ∧ TrR T (if rfs D V kd f a = 0 then pD D kd f a else D) (if rfs D V kd f a = 0 then pV V kd f a else V) := by
  obtain ⟨⟨hkd, hf16, hf0, hdir, hw1⟩, hf, hds⟩ := ho
  have same : ∃ T, T = mI M t := ⟨_, rfl⟩
  obtain ⟨t1, t2⟩ := hT f hf
  obtain ⟨q0, q1, q2, q3, q4⟩ := k_e kd hkd
  have rk := r_k2 kd hkd
  have i5 : ∀ c, c < 5 → inR (nI (5 * e + c)) 60 = True := fun c hc => iT (by omega) (by decide)
  have i50 : inR (nI (5 * e)) 60 = True := iT (by omega) (by decide)
  have cc : ∀ c, c < 5 → (nI (5 * e + c)).toNatClampNeg = 5 * e + c := fun c hc => cN (by omega)
  have cc0 : (nI (5 * e)).toNatClampNeg = 5 * e := cN (by omega)
  have hgo : ∀ v, (mI M t (2 * f) = -9) = v → cl 67 [.int (nI e), .ref E, .ref t] M = rn 67 42 [some (.int (nI e)), some (.ref E), some (.ref t), some (.int (nI kd)), some (.int (nI f)), some (.int a), some (.int (if mI M t (2 * f) = -9 then 0 else 1)), none] [] M := by
    intro v hv
    show rn 67 0 [some (.int (nI e)), some (.ref E), some (.ref t), none, none, none, none, none] [] M = _
    by_cases q : mI M t (2 * f) = -9
    · simp only [t67_0, t67_1, t67_2, t67_3, t67_4, t67_5, t67_6, t67_7, t67_8, t67_9, t67_10, t67_11, t67_12, t67_13, t67_15, t67_16, t67_17, t67_18, t67_19, t67_20, t67_21, t67_22, t67_24, t67_25, t67_26, t67_28, t67_29, t67_30, t67_32, t67_35, t67_36, t67_39, t67_40, hE, hk, true_or, x5, n1, n2, i50, i5 1 (by decide), i5 2 (by decide), and_self, ↓reduceIte, cc0, cc 1 (by decide), cc 2 (by decide), e0, e1, e2, x2, iT (show 2 * f < 12 by omega) (by decide), cN (show 2 * f ≤ 1000000 by omega), q]
    · simp only [t67_0, t67_1, t67_2, t67_3, t67_4, t67_5, t67_6, t67_7, t67_8, t67_9, t67_10, t67_11, t67_12, t67_13, t67_15, t67_16, t67_17, t67_18, t67_19, t67_20, t67_21, t67_22, t67_24, t67_25, t67_26, t67_28, t67_29, t67_30, t67_32, t67_35, t67_36, t67_39, t67_40, hE, hk, true_or, x5, n1, n2, i50, i5 1 (by decide), i5 2 (by decide), and_self, ↓reduceIte, cc0, cc 1 (by decide), cc 2 (by decide), e0, e1, e2, x2, iT (show 2 * f < 12 by omega) (by decide), cN (show 2 * f ≤ 1000000 by omega), q]
  have hgo := hgo _ rfl
  have i2f : inR (nI (2 * f)) 12 = True := iT (by omega) (by decide)
  have i2f1 : inR (nI (2 * f + 1)) 12 = True := iT (by omega) (by decide)
  have c2f : (nI (2 * f)).toNatClampNeg = 2 * f := cN (by omega)
  have c2f1 : (nI (2 * f + 1)).toNatClampNeg = 2 * f + 1 := cN (by omega)
  have o01 : ((0 : Int32) = 1) = False := by decide
  have o10 : ((1 : Int32) = 0) = False := by decide
  have o20 : ((2 : Int32) = 0) = False := by decide
  have ends : ∀ x : Int32, ¬ x = 0 → rfs D V kd f a = x → cl 67 [.int (nI e), .ref E, .ref t] M = some (some (.int x), M) → ∃ T, cl 67 [.int (nI e), .ref E, .ref t] M = some (some (.int (rfs D V kd f a)), sI M t T) ∧ TrR T (if rfs D V kd f a = 0 then pD D kd f a else D) (if rfs D V kd f a = 0 then pV V kd f a else V) := by
    intro x hx hr hc
    refine ⟨mI M t, ?_, ?_⟩
    · rw [sI_self, hr]; exact hc
    · rw [hr, if_neg hx, if_neg hx]; exact hT
  by_cases hv : V f = -6
  · -- the file is not there
    rw [if_pos hv] at t1
    simp only [t1, ↓reduceIte] at hgo
    by_cases hk0 : kd = 0
    · subst hk0
      obtain ⟨j, hj, rfl⟩ := hds (Or.inl rfl)
      obtain ⟨tj, -⟩ := hT j hj
      have i2j : inR (nI (2 * j)) 12 = True := iT (by omega) (by decide)
      have c2j : (nI (2 * j)).toNatClampNeg = 2 * j := cN (by omega)
      by_cases hvj : V j = -6
      · have hr : rfs D V 0 f (nI j) = 3 := by simp [rfs, hv, hvj, cN (show j ≤ 1000000 by omega)]
        refine ends 3 (by decide) hr ?_
        rw [if_pos hvj] at tj
        rw [hgo]
        simp only [t67_42, t67_43, t67_46, t67_47, t67_51, t67_53, t67_66, t67_67, t67_68 (show ¬ (2 : Int32) = 0 by decide), t67_69, t67_72, t67_73, t67_74, t67_76, t67_77, t67_78, t67_80, t67_83, t67_84, q0, q1, q2, q3, rk, q4, true_or, o10, not_true_eq_false, not_false_eq_true, ↓reduceIte, x2, hk, i2j, and_self, c2j, tj]
      · have hr : rfs D V 0 f (nI j) = 0 := by simp [rfs, hv, hvj, cN (show j ≤ 1000000 by omega)]
        rw [if_neg hvj] at tj
        have tj9 : (mI M t (2 * j) = -9) = False := by rw [tj]; exact dir9 hI h6 (by omega) hvj
        have k2 : ((0 : Nat) = 2) = False := by decide
        have k3 : ((0 : Nat) = 3) = False := by decide
        have k1 : ((0 : Nat) = 1) = False := by decide
        refine ⟨va_up (va_up (mI M t) (2 * f + 1) 0) (2 * f) (nI j), ?_, ?_⟩
        · rw [hgo, hr]
          simp only [t67_42, t67_43, t67_46, t67_47, t67_51, t67_53, t67_66, t67_67, t67_68 (show ¬ (2 : Int32) = 0 by decide), t67_69, t67_72, t67_73, t67_74, t67_76, t67_77, t67_78, t67_80, t67_85, t67_86, t67_87, t67_119, t67_120, t67_121, t67_153, t67_154, t67_157, t67_158, t67_159, t67_161, t67_162, t67_163, t67_164, t67_165, t67_166, t67_167, t67_168, t67_181, t67_182, t67_183 (show ¬ (2 : Int32) = 0 by decide), t67_184, t67_187, t67_188, t67_189, t67_191, t67_192, t67_194, t67_195, t67_196, t67_197, t67_218, t67_219, q0, q1, q2, q3, rk, q4, k1, k2, k3, true_or, o10, not_true_eq_false, not_false_eq_true, ↓reduceIte, x2, hk, i2j, and_self, c2j, tj9, i2f, i2f1, c2f, c2f1, mK_sI, mI_sI, sI_sI, n1]
        · rw [hr, if_pos rfl, if_pos rfl]
          simp only [pD, pV, true_or, ↓reduceIte]
          intro g hg
          obtain ⟨u1, u2⟩ := hT g hg
          by_cases q : g = f
          · subst q
            simp only [va_up_self, va_up_ne _ _ (show 2 * g + 1 ≠ 2 * g by omega), (by decide : ((0 : Int32) = -6) = False), ↓reduceIte, and_self]
          · rw [va_up_ne _ _ (show 2 * g ≠ 2 * f by omega), va_up_ne _ _ (show 2 * g ≠ 2 * f + 1 by omega), va_up_ne _ _ (show 2 * g + 1 ≠ 2 * f by omega), va_up_ne _ _ (show 2 * g + 1 ≠ 2 * f + 1 by omega), va_up_ne _ _ q, va_up_ne _ _ q]
            exact ⟨u1, u2⟩
    · have hr : rfs D V kd f a = 2 := by simp [rfs, hv, hk0]
      refine ends 2 (by decide) hr ?_
      have nk : (nI kd = 0) = False := by rw [q0]; exact eq_false hk0
      rw [hgo]
      simp only [t67_42, t67_43, t67_50, t67_51, t67_53, t67_56, t67_57, t67_64, t67_65, nk, not_true_eq_false, not_false_eq_true, ↓reduceIte]
  · -- the file is there
    rw [if_neg hv] at t1 t2
    have t19 : (mI M t (2 * f) = -9) = False := by rw [t1]; exact dir9 hI h6 (by omega) hv
    simp only [t19, ↓reduceIte] at hgo
    match kd, hkd with
    | 0, _ =>
      have hr : rfs D V 0 f a = 1 := by simp [rfs, hv]
      refine ends 1 (by decide) hr ?_
      rw [hgo]
      simp only [t67_42, t67_43, t67_46, t67_47, t67_51, t67_53, t67_56, t67_57, t67_60, t67_61, t67_65, q0, not_true_eq_false, ↓reduceIte]
    | 1, _ =>
      have hr : rfs D V 1 f a = 0 := by simp [rfs, hv]
      have k0 : ((1 : Nat) = 0) = False := by decide
      have k2 : ((1 : Nat) = 2) = False := by decide
      have k3 : ((1 : Nat) = 3) = False := by decide
      refine ⟨va_up (mI M t) (2 * f + 1) a, ?_, ?_⟩
      · rw [hgo, hr]
        simp only [t67_42, t67_43, t67_50, t67_51, t67_53, t67_66, t67_67, t67_68 (show ¬ (2 : Int32) = 0 by decide), t67_69, t67_85, t67_86, t67_87, t67_119, t67_120, t67_121, t67_153, t67_154, t67_166, t67_167, t67_168, t67_171, t67_172, t67_173, t67_175, t67_176, t67_177, t67_178, t67_180, t67_181, t67_182, t67_183 (show ¬ (2 : Int32) = 0 by decide), t67_184, t67_195, t67_196, t67_197, t67_218, t67_219, q0, q1, q2, q3, rk, q4, k0, k2, k3, o01, or_self, not_true_eq_false, not_false_eq_true, ↓reduceIte, x2, hk, and_self, i2f1, c2f1, mK_sI, mI_sI, sI_sI, n1]
      · rw [hr, if_pos rfl, if_pos rfl]
        simp only [pD, pV, k0, k2, k3, or_self, ↓reduceIte]
        intro g hg
        obtain ⟨u1, u2⟩ := hT g hg
        by_cases q : g = f
        · subst q
          have hw := hw1 rfl
          rw [va_up_self, va_up_ne _ _ (show 2 * g ≠ 2 * g + 1 by omega), va_up_self, if_neg hw, if_neg hw]
          exact ⟨t1, rfl⟩
        · rw [va_up_ne _ _ (show 2 * g ≠ 2 * f + 1 by omega), va_up_ne _ _ (show 2 * g + 1 ≠ 2 * f + 1 by omega), va_up_ne _ _ q]
          exact ⟨u1, u2⟩
    | 2, _ =>
      obtain ⟨j, hj, rfl⟩ := hds (Or.inr rfl)
      obtain ⟨tj, -⟩ := hT j hj
      have i2j : inR (nI (2 * j)) 12 = True := iT (by omega) (by decide)
      have c2j : (nI (2 * j)).toNatClampNeg = 2 * j := cN (by omega)
      have k0 : ((2 : Nat) = 0) = False := by decide
      have k1 : ((2 : Nat) = 1) = False := by decide
      have k3 : ((2 : Nat) = 3) = False := by decide
      by_cases hvj : V j = -6
      · have hr : rfs D V 2 f (nI j) = 3 := by simp [rfs, hv, hvj, cN (show j ≤ 1000000 by omega)]
        refine ends 3 (by decide) hr ?_
        rw [if_pos hvj] at tj
        rw [hgo]
        simp only [t67_42, t67_43, t67_50, t67_51, t67_53, t67_66, t67_67, t67_68 (show ¬ (2 : Int32) = 0 by decide), t67_69, t67_72, t67_73, t67_74, t67_76, t67_77, t67_78, t67_80, t67_83, t67_84, q0, k0, rk, q4, or_true, o01, not_true_eq_false, not_false_eq_true, ↓reduceIte, x2, hk, true_or, i2j, and_self, c2j, tj]
      · rw [if_neg hvj] at tj
        have tj9 : (mI M t (2 * j) = -9) = False := by rw [tj]; exact dir9 hI h6 (by omega) hvj
        have hch := fun a5 a6 => c_chain3 hk hT hI h6 hf (some (.int (nI e))) (some (.ref E)) (some (.int (nI 2))) a5 a6 16 (nI j) (hI.2.2.2.2 j (by omega)) (Or.inr ⟨j, hj, rfl, hvj⟩)
        have hrun : cl 67 [.int (nI e), .ref E, .ref t] M = rn 67 94 [some (.int (nI e)), some (.ref E), some (.ref t), some (.int (nI 2)), some (.int (nI f)), some (.int (nI j)), some (.int 1), some (.int (nI j))] [] M := by
          rw [hgo]
          simp only [t67_42, t67_43, t67_50, t67_51, t67_53, t67_66, t67_67, t67_68 (show ¬ (2 : Int32) = 0 by decide), t67_69, t67_72, t67_73, t67_74, t67_76, t67_77, t67_78, t67_80, t67_85, t67_86, t67_87, t67_90, t67_92, q0, q2, k0, rk, q4, or_true, o01, not_true_eq_false, not_false_eq_true, ↓reduceIte, x2, hk, true_or, i2j, and_self, c2j, tj9]
        cases hl : lies D 16 (nI j) (nI f) with
        | true =>
          have hr : rfs D V 2 f (nI j) = 4 := by simp [rfs, hv, hvj, cN (show j ≤ 1000000 by omega), hl]
          refine ends 4 (by decide) hr ?_
          rw [hrun, hch, if_pos hl]
        | false =>
          have hr : rfs D V 2 f (nI j) = 0 := by simp [rfs, hv, hvj, cN (show j ≤ 1000000 by omega), hl]
          refine ⟨va_up (mI M t) (2 * f) (nI j), ?_, ?_⟩
          · rw [hrun, hch, if_neg (by rw [hl]; decide), hr]
            simp only [t67_119, t67_120, t67_121, t67_153, t67_154, t67_166, t67_167, t67_168, t67_181, t67_182, t67_183 (show ¬ (2 : Int32) = 0 by decide), t67_184, t67_187, t67_188, t67_189, t67_191, t67_192, t67_194, t67_195, t67_196, t67_197, t67_218, t67_219, q0, q1, q2, q3, rk, q4, k0, k1, k3, or_true, not_true_eq_false, not_false_eq_true, ↓reduceIte, x2, hk, and_self, i2f, c2f, mK_sI]
          · rw [hr, if_pos rfl, if_pos rfl]
            simp only [pD, pV, k0, k1, k3, or_true, ↓reduceIte]
            intro g hg
            obtain ⟨u1, u2⟩ := hT g hg
            by_cases q : g = f
            · subst q
              rw [va_up_self, va_up_ne _ _ (show 2 * g + 1 ≠ 2 * g by omega), va_up_self, if_neg hv, if_neg hv]
              exact ⟨rfl, t2⟩
            · rw [va_up_ne _ _ (show 2 * g ≠ 2 * f by omega), va_up_ne _ _ (show 2 * g + 1 ≠ 2 * f by omega), va_up_ne _ _ q]
              exact ⟨u1, u2⟩
    | 3, _ =>
      have k0 : ((3 : Nat) = 0) = False := by decide
      have k1 : ((3 : Nat) = 1) = False := by decide
      have k2 : ((3 : Nat) = 2) = False := by decide
      have hin := fun a5 a6 => c_in3 hk hT hI h6 hf (some (.int (nI e))) (some (.ref E)) (some (.int (nI 3))) a5 a6 1 (by decide) (Nat.le_refl _)
      have e1n : (1 : Int32) = nI 1 := rfl
      have hrun : cl 67 [.int (nI e), .ref E, .ref t] M = rn 67 127 [some (.int (nI e)), some (.ref E), some (.ref t), some (.int (nI 3)), some (.int (nI f)), some (.int a), some (.int 1), some (.int (nI 1))] [] M := by
        rw [hgo]
        simp only [t67_42, t67_43, t67_50, t67_51, t67_53, t67_66, t67_67, t67_68 (show ¬ (2 : Int32) = 0 by decide), t67_69, t67_85, t67_86, t67_87, t67_119, t67_120, t67_121, t67_124, t67_125, q0, q2, q3, k0, k2, rk, q4, or_self, o01, not_true_eq_false, not_false_eq_true, ↓reduceIte]
        rfl
      by_cases hm : m32 (fun g => decide (D g = nI f)) 16 = 0
      · have hr : rfs D V 3 f a = 0 := by simp [rfs, hv, hm]
        have hno : ¬ ∃ g, 1 ≤ g ∧ g < 6 ∧ D g = nI f := fun h => (in_m32 hI h6 hf).mp h hm
        refine ⟨va_up (va_up (mI M t) (2 * f) (-9)) (2 * f + 1) (-9), ?_, ?_⟩
        · rw [hrun, (hin _ _).2 hno, hr]
          simp only [t67_153, t67_154, t67_166, t67_167, t67_168, t67_181, t67_182, t67_183 (show ¬ (2 : Int32) = 0 by decide), t67_184, t67_195, t67_196, t67_197, t67_200, t67_201, t67_202, t67_204, t67_205, t67_207, t67_208, t67_209, t67_210, t67_212, t67_213, t67_214, t67_215, t67_217, t67_218, t67_219, q0, q1, q3, rk, q4, k0, k1, k2, or_self, not_true_eq_false, not_false_eq_true, ↓reduceIte, x2, hk, and_self, i2f, c2f, i2f1, c2f1, mK_sI, mI_sI, sI_sI, n1]
        · rw [hr, if_pos rfl, if_pos rfl]
          simp only [pD, pV, k0, k1, k2, or_self, ↓reduceIte]
          intro g hg
          obtain ⟨u1, u2⟩ := hT g hg
          by_cases q : g = f
          · subst q
            simp only [va_up_self, va_up_ne _ _ (show 2 * g ≠ 2 * g + 1 by omega), ↓reduceIte, and_self]
          · rw [va_up_ne _ _ (show 2 * g ≠ 2 * f + 1 by omega), va_up_ne _ _ (show 2 * g ≠ 2 * f by omega), va_up_ne _ _ (show 2 * g + 1 ≠ 2 * f + 1 by omega), va_up_ne _ _ (show 2 * g + 1 ≠ 2 * f by omega), va_up_ne _ _ q, va_up_ne _ _ q]
            exact ⟨u1, u2⟩
      · have hr : rfs D V 3 f a = 5 := by simp [rfs, hv, hm]
        refine ends 5 (by decide) hr ?_
        rw [hrun, (hin _ _).1 ((in_m32 hI h6 hf).mpr hm)]
