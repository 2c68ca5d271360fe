/-! the reference: an entry written -/
theorem lastI_cong {p q : Nat → Bool} : ∀ {n : Nat}, (∀ i, i < n → p i = q i) → lastI p n = lastI q n := by
  intro n
  induction n with
  | zero => intro _; rfl
  | succ n ih =>
    intro h
    unfold lastI
    rw [h n (by omega), ih (fun i hi => h i (by omega))]
theorem lastI_or (p : Nat → Bool) : ∀ n, (lastI p n = -6 ∧ lastB p n = 0) ∨ (∃ k, k < n ∧ p k = true ∧ lastI p n = nI k ∧ lastB p n = bE k) := by
  intro n
  induction n with
  | zero => exact Or.inl ⟨rfl, rfl⟩
  | succ n ih =>
    unfold lastI lastB
    by_cases h : p n = true
    · rw [if_pos h, if_pos h]
      exact Or.inr ⟨n, by omega, h, rfl, rfl⟩
    · rw [if_neg h, if_neg h]
      rcases ih with ih | ⟨k, hk, e⟩
      · exact Or.inl ih
      · exact Or.inr ⟨k, by omega, e⟩
def dpA (w : Nat → Int32) (e : Nat) (d : Int32) : Nat → Int32 := if d = -6 then w else dpW w e d.toNatClampNeg
theorem dpA_ne {w : Nat → Int32} {e j : Nat} {d : Int32} (h6 : j ≠ 2 + 8 * e + 6) (h7 : j ≠ 2 + 8 * e + 7) : dpA w e d j = w j := by
  unfold dpA
  split
  · rfl
  · exact dpW_ne h6 h7
theorem dpA_dp {w : Nat → Int32} {e n : Nat} (p : Nat → Bool) (hn : n ≤ 40) : dpN (dpA w e (lastI p n) (2 + 8 * e + 6)) (dpA w e (lastI p n) (2 + 8 * e + 7)) = dpN (w (2 + 8 * e + 6)) (w (2 + 8 * e + 7)) ||| lastB p n := by
  unfold dpA
  rcases lastI_or p n with ⟨h1, h2⟩ | ⟨k, hk, -, h1, h2⟩
  · rw [if_pos h1, h2, Int64.or_zero]
  · have : ¬ nI k = -6 := by
      intro q
      exact (by decide +kernel : ∀ k, k < 40 → ¬ nI k = -6) k (by omega) q
    rw [h1, if_neg this, h2, nI_c (show k < 2147483648 by omega), dpW_dp (by omega)]
theorem c_dependsIfAny {M : SM} {m e n : Nat} (h : ModAt M m) (he : e < 40) (hn : n ≤ 40) (p : Nat → Bool) : cl 112 [.ref m, .int (nI e), .int (lastI p n)] M = some (none, sI M (m + 1) (dpA (mI M (m + 1)) e (lastI p n))) := by
  show rn 112 0 [some (.ref m), some (.int (nI e)), some (.int (lastI p n))] [] M = _
  unfold dpA
  rcases lastI_or p n with ⟨h1, -⟩ | ⟨k, hk, -, h1, -⟩
  · rw [h1, if_pos rfl, sI_self]
    simp only [t112_0, t112_1, t112_3, t112_6, t112_7, t112_8, t112_9, t112_12, ↓reduceIte]
  · have : ¬ nI k = -6 := by
      intro q
      exact (by decide +kernel : ∀ k, k < 40 → ¬ nI k = -6) k (by omega) q
    rw [h1, if_neg this, nI_c (show k < 2147483648 by omega)]
    simp only [t112_0, t112_1, t112_3, t112_6, t112_7, t112_8, t112_9, t112_12, ↓reduceIte, this, h.1, c_depends h he (show k < 40 by omega), cbn_v]
def wr1 (w : Nat → Int32) (n : Nat) (kd f a : Int32) : Nat → Int32 :=
  va_up (va_up (va_up (va_up (va_up (va_up (va_up (va_up w (2 + 8 * n + 0) kd) (2 + 8 * n + 1) f) (2 + 8 * n + 2) a) (2 + 8 * n + 3) 0) (2 + 8 * n + 4) (-6)) (2 + 8 * n + 5) (-6)) (2 + 8 * n + 6) 0) (2 + 8 * n + 7) 0
def wr2 (w : Nat → Int32) (n : Nat) (f : Int32) : Nat → Int32 := dpA w n (lastI (fun e => decide (w (2 + 8 * e + 1) = f)) n)
def wr3 (w : Nat → Int32) (n : Nat) (f : Int32) : Nat → Int32 := dpA w n (lastI (fun e => decide (w (2 + 8 * e) = 0 ∨ w (2 + 8 * e) = 2) && decide (w (2 + 8 * e + 2) = f)) n)
def wr4 (w : Nat → Int32) (n : Nat) (kd f a : Int32) : Nat → Int32 :=
  let w2 := wr2 (wr1 w n kd f a) n f
  let w3 := if (kd = 0 ∨ kd = 2) ∧ ¬ a = 0 then wr2 w2 n a else w2
  if kd = 3 then wr3 w3 n f else w3
def wrW (w : Nat → Int32) (n : Nat) (kd f a : Int32) : Nat → Int32 := va_up (wr4 w n kd f a) 0 (nI (n + 1))
theorem wr1_ne {w : Nat → Int32} {n j : Nat} {kd f a : Int32} (h : j < 2 + 8 * n ∨ 2 + 8 * n + 8 ≤ j) : wr1 w n kd f a j = w j := by
  unfold wr1
  rw [va_up_ne _ _ (by omega), va_up_ne _ _ (by omega), va_up_ne _ _ (by omega), va_up_ne _ _ (by omega), va_up_ne _ _ (by omega), va_up_ne _ _ (by omega), va_up_ne _ _ (by omega), va_up_ne _ _ (by omega)]
theorem wr4_ne {w : Nat → Int32} {n j : Nat} {kd f a : Int32} (h6 : j ≠ 2 + 8 * n + 6) (h7 : j ≠ 2 + 8 * n + 7) : wr4 w n kd f a j = wr1 w n kd f a j := by
  unfold wr4 wr2 wr3
  try simp only
  split <;> split <;> simp only [dpA_ne h6 h7]
theorem wr4_dp {w : Nat → Int32} {n : Nat} {kd f a : Int32} (hn : n ≤ 40) : dpN (wr4 w n kd f a (2 + 8 * n + 6)) (wr4 w n kd f a (2 + 8 * n + 7)) = fNd (fun e => w (2 + 8 * e)) (fun e => w (2 + 8 * e + 1)) (fun e => w (2 + 8 * e + 2)) n kd f a := by
  have z1 : dpN (wr1 w n kd f a (2 + 8 * n + 6)) (wr1 w n kd f a (2 + 8 * n + 7)) = 0 := by
    unfold wr1
    rw [va_up_self, va_up_ne _ _ (by omega), va_up_self]
    decide
  have g1 : ∀ e, e < n → ∀ p, p < 6 → wr1 w n kd f a (2 + 8 * e + p) = w (2 + 8 * e + p) := fun e he p hp => wr1_ne (Or.inl (by omega))
  obtain ⟨u1, hu1⟩ : ∃ u1, u1 = wr1 w n kd f a := ⟨_, rfl⟩
  rw [← hu1] at z1 g1
  obtain ⟨u2, hu2⟩ : ∃ u2, u2 = wr2 u1 n f := ⟨_, rfl⟩
  have z2 : dpN (u2 (2 + 8 * n + 6)) (u2 (2 + 8 * n + 7)) = lastB (fun e => decide (w (2 + 8 * e + 1) = f)) n := by
    rw [hu2]
    unfold wr2
    rw [dpA_dp _ hn, z1, Int64.zero_or]
    exact lastB_cong (fun e he => by rw [g1 e he 1 (by decide)])
  have g2 : ∀ e, e < n → ∀ p, p < 6 → u2 (2 + 8 * e + p) = w (2 + 8 * e + p) := fun e he p hp => by
    rw [hu2]
    unfold wr2
    rw [dpA_ne (by omega) (by omega), g1 e he p hp]
  obtain ⟨u3, hu3⟩ : ∃ u3, u3 = if (kd = 0 ∨ kd = 2) ∧ ¬ a = 0 then wr2 u2 n a else u2 := ⟨_, rfl⟩
  have z3 : dpN (u3 (2 + 8 * n + 6)) (u3 (2 + 8 * n + 7)) = if (kd = 0 ∨ kd = 2) ∧ ¬ a = 0 then lastB (fun e => decide (w (2 + 8 * e + 1) = f)) n ||| lastB (fun e => decide (w (2 + 8 * e + 1) = a)) n else lastB (fun e => decide (w (2 + 8 * e + 1) = f)) n := by
    rw [hu3]
    by_cases q : (kd = 0 ∨ kd = 2) ∧ ¬ a = 0
    · rw [if_pos q, if_pos q]
      unfold wr2
      rw [dpA_dp _ hn, z2]
      congr 1
      exact lastB_cong (fun e he => by rw [g2 e he 1 (by decide)])
    · rw [if_neg q, if_neg q, z2]
  have g3 : ∀ e, e < n → ∀ p, p < 6 → u3 (2 + 8 * e + p) = w (2 + 8 * e + p) := fun e he p hp => by
    rw [hu3]
    split
    · unfold wr2
      rw [dpA_ne (by omega) (by omega), g2 e he p hp]
    · exact g2 e he p hp
  have hw : wr4 w n kd f a = if kd = 3 then wr3 u3 n f else u3 := by
    rw [hu3, hu2, hu1]; rfl
  rw [hw]
  unfold fNd
  simp only
  rw [← z3]
  by_cases q : kd = 3
  · rw [if_pos q, if_pos q]
    unfold wr3
    rw [dpA_dp _ hn]
    congr 1
    exact lastB_cong (fun e he => by
      have e0 := g3 e he 0 (by decide)
      rw [Nat.add_zero] at e0
      simp only [e0, g3 e he 2 (by decide)])
  · rw [if_neg q, if_neg q]
theorem c_written {M : SM} {m n : Nat} (h : ModAt M m) (hn : mI M (m + 1) 0 = nI n) (h40 : n < 40) (kd f a : Int32) : cl 108 [.ref m, .int kd, .int f, .int a] M = some (some (.int (nI n)), sI M (m + 1) (wrW (mI M (m + 1)) n kd f a)) := by
  have lp : ∀ w, w 0 = nI n → cl 108 [.ref m, .int kd, .int f, .int a] (sI M (m + 1) w) = some (some (.int (nI n)), sI M (m + 1) (wrW w n kd f a)) := by
    intro w hw
    show rn 108 0 [some (.ref m), some (.int kd), some (.int f), some (.int a), none] [] (sI M (m + 1) w) = _
    have hm := h
    obtain ⟨h1, h2, -, -, -, -, -, -, -, -, k1, -⟩ := h
    have sp : ∀ (w : Nat → Int32) (p : Nat) (v : Int32), p < 8 → cl 109 [.ref m, .int (nI n), .int (nI p), .int v] (sI M (m + 1) w) = some (none, sI M (m + 1) (va_up w (2 + 8 * n + p) v)) := by
      intro w p v hp
      have := c_setPart (hm.sI (m + 1) w) h40 hp v
      simp only [mI_sI, ↓reduceIte, sI_sI] at this
      exact this
    have s0 := fun w v => sp w 0 v (by decide)
    have s1 := fun w v => sp w 1 v (by decide)
    have s2 := fun w v => sp w 2 v (by decide)
    have s3 := fun w v => sp w 3 v (by decide)
    have s4 := fun w v => sp w 4 v (by decide)
    have s5 := fun w v => sp w 5 v (by decide)
    have s6 := fun w v => sp w 6 v (by decide)
    have s7 := fun w v => sp w 7 v (by decide)
    rw [show nI 0 = 0 from rfl] at s0
    rw [show nI 1 = 1 from rfl] at s1
    rw [show nI 2 = 2 from rfl] at s2
    rw [show nI 3 = 3 from rfl] at s3
    rw [show nI 4 = 4 from rfl] at s4
    rw [show nI 5 = 5 from rfl] at s5
    rw [show nI 6 = 6 from rfl] at s6
    rw [show nI 7 = 7 from rfl] at s7
    have lo : ∀ (w : Nat → Int32) (f : Int32), cl 110 [.ref m, .int (nI n), .int f] (sI M (m + 1) w) = some (some (.int (lastI (fun e => decide (w (2 + 8 * e + 1) = f)) n)), sI M (m + 1) w) := by
      intro w f
      have := c_latestOf (hm.sI (m + 1) w) (show n ≤ 40 by omega) f
      simp only [mI_sI, ↓reduceIte] at this
      exact this
    have li : ∀ (w : Nat → Int32) (f : Int32), cl 115 [.ref m, .int (nI n), .int f] (sI M (m + 1) w) = some (some (.int (lastI (fun e => decide (w (2 + 8 * e) = 0 ∨ w (2 + 8 * e) = 2) && decide (w (2 + 8 * e + 2) = f)) n)), sI M (m + 1) w) := by
      intro w f
      have := c_latestIn (hm.sI (m + 1) w) (show n ≤ 40 by omega) f
      simp only [mI_sI, ↓reduceIte] at this
      exact this
    have da : ∀ (w : Nat → Int32) (p : Nat → Bool), cl 112 [.ref m, .int (nI n), .int (lastI p n)] (sI M (m + 1) w) = some (none, sI M (m + 1) (dpA w n (lastI p n))) := by
      intro w p
      have := c_dependsIfAny (hm.sI (m + 1) w) h40 (show n ≤ 40 by omega) p
      simp only [mI_sI, ↓reduceIte, sI_sI] at this
      exact this
    have hd : ∀ (w : Nat → Int32), cl 114 [.ref m, .int (nI n)] (sI M (m + 1) w) = some (some (.int (if w (2 + 8 * n) = 0 ∨ w (2 + 8 * n) = 2 then 1 else 0)), sI M (m + 1) w) := by
      intro w
      have := c_mHasDir (hm.sI (m + 1) w) h40
      simp only [mI_sI, ↓reduceIte] at this
      exact this
    have hin : inR 0 370 = True := eq_true (by decide)
    have e1 : (0 : Int32).toNatClampNeg = 0 := by decide
    obtain ⟨u1, hu1⟩ : ∃ u1, u1 = wr1 w n kd f a := ⟨_, rfl⟩
    have hu1' := hu1
    unfold wr1 at hu1'
    obtain ⟨u2, hu2⟩ : ∃ u2, u2 = wr2 u1 n f := ⟨_, rfl⟩
    have hu2' := hu2
    unfold wr2 at hu2'
    have k2 : u2 (2 + 8 * n) = kd := by
      rw [hu2']
      rw [dpA_ne (by omega) (by omega), hu1']
      rw [va_up_ne _ _ (by omega), va_up_ne _ _ (by omega), va_up_ne _ _ (by omega), va_up_ne _ _ (by omega), va_up_ne _ _ (by omega), va_up_ne _ _ (by omega), va_up_ne _ _ (by omega)]
      exact va_up_self _ _ _
    have q0 : wr4 w n kd f a 0 = nI n := by
      rw [wr4_ne (by omega) (by omega), wr1_ne (Or.inl (by omega)), hw]
    have q4 : wr4 w n kd f a = if kd = 3 then wr3 (if (kd = 0 ∨ kd = 2) ∧ ¬ a = 0 then wr2 u2 n a else u2) n f else (if (kd = 0 ∨ kd = 2) ∧ ¬ a = 0 then wr2 u2 n a else u2) := by
      rw [hu2, hu1]; rfl
    unfold wrW
    have two : ((1 : Int32) = 0) = False := by decide
    have z30 : ((3 : Int32) = 0) = False := by decide
    have z32 : ((3 : Int32) = 2) = False := by decide
    simp only [t108_0, t108_1, t108_4, t108_5, t108_6, t108_8, t108_9, t108_11, t108_12, t108_13, t108_16, t108_17, t108_19, t108_20, t108_21, t108_24, t108_25, t108_27, t108_28, t108_29, t108_32, t108_33, t108_35, t108_36, t108_37, t108_40, t108_41, t108_43, t108_44, t108_46, t108_49, t108_50, t108_52, t108_53, t108_55, t108_58, t108_59, t108_61, t108_63, t108_64, t108_67, t108_68, t108_70, t108_72, t108_73, t108_76, t108_77, t108_79, t108_80, t108_82, t108_83, t108_86, t108_89, t108_90, t108_92, t108_95, t108_98, t108_99, t108_102, t108_103, t108_105, t108_106, t108_108, t108_109, t108_112, t108_115, t108_116, t108_117, t108_120, t108_121, t108_123, t108_124, t108_126, t108_127, t108_130, t108_133, t108_134, t108_137, t108_138, t108_139, t108_140, t108_141, t108_142, t108_143, t108_145, mK_sI, mP_sI, h1, h2, va_rf_s, ↓reduceIte, k1, hin, e1, true_or, and_self, mI_sI, hw, s0, s1, s2, s3, s4, s5, s6, s7, cbn_v, lo, cbn_i, da, ← hu1', ← hu2', hd, k2]
    generalize wr4 w n kd f a = U at q0 q4 ⊢
    by_cases qd : kd = 0 ∨ kd = 2 <;> by_cases qa : a = 0 <;> by_cases q3 : kd = 3 <;> simp only [qd, qa, q3, z30, z32, or_self, ↓reduceIte, not_true_eq_false, not_false_eq_true, and_true, true_and, and_self, and_false, false_and] at q4 <;> rw [q4] at q0 ⊢ <;> (try simp only [wr2, wr3] at q0 ⊢) <;>
      simp only [t108_0, t108_1, t108_4, t108_5, t108_6, t108_8, t108_9, t108_11, t108_12, t108_13, t108_16, t108_17, t108_19, t108_20, t108_21, t108_24, t108_25, t108_27, t108_28, t108_29, t108_32, t108_33, t108_35, t108_36, t108_37, t108_40, t108_41, t108_43, t108_44, t108_46, t108_49, t108_50, t108_52, t108_53, t108_55, t108_58, t108_59, t108_61, t108_63, t108_64, t108_67, t108_68, t108_70, t108_72, t108_73, t108_76, t108_77, t108_79, t108_80, t108_82, t108_83, t108_86, t108_89, t108_90, t108_92, t108_95, t108_98, t108_99, t108_102, t108_103, t108_105, t108_106, t108_108, t108_109, t108_112, t108_115, t108_116, t108_117, t108_120, t108_121, t108_123, t108_124, t108_126, t108_127, t108_130, t108_133, t108_134, t108_137, t108_138, t108_139, t108_140, t108_141, t108_142, t108_143, t108_145, qd, qa, q3, z30, z32, or_self, ↓reduceIte, two, not_true_eq_false, not_false_eq_true, mK_sI, mP_sI, h1, h2, va_rf_s, k1, hin, e1, true_or, and_self, mI_sI, cbn_i, cbn_v, lo, li, da, q0, n1, sI_sI]
  have := lp _ hn
  rw [sI_self] at this
  exact this
