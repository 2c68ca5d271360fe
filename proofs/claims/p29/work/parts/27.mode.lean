/-! as in whole -/
theorem lastI_or (p : Nat → Bool) : ∀ n, (lastI p n = -6 ∧ lastB p n = 0) ∨ (∃ k, k < n ∧ p k = true ∧ lastI p n = nI k ∧ lastB p n = bE k) := by
  intro n
  induction n with
  | zero => exact Or.inl ⟨rfl, rfl⟩
  | succ n ih =>
    unfold lastI lastB
    by_cases h : p n = true
    · rw [if_pos h, if_pos h]
      exact Or.inr ⟨n, by omega, h, rfl, rfl⟩
    · rw [if_neg h, if_neg h]
      rcases ih with ih | ⟨k, hk, e⟩
      · exact Or.inl ih
      · exact Or.inr ⟨k, by omega, e⟩
def dpA (w : Nat → Int32) (e : Nat) (d : Int32) : Nat → Int32 := if d = -6 then w else dpW w e d.toNatClampNeg
theorem dpA_ne {w : Nat → Int32} {e j : Nat} {d : Int32} (h6 : j ≠ 2 + 8 * e + 6) (h7 : j ≠ 2 + 8 * e + 7) : dpA w e d j = w j := by
  unfold dpA
  split
  · rfl
  · exact dpW_ne h6 h7
theorem dpA_dp {w : Nat → Int32} {e n : Nat} (p : Nat → Bool) (hn : n ≤ 40) : dpN (dpA w e (lastI p n) (2 + 8 * e + 6)) (dpA w e (lastI p n) (2 + 8 * e + 7)) = dpN (w (2 + 8 * e + 6)) (w (2 + 8 * e + 7)) ||| lastB p n := by
  unfold dpA
  rcases lastI_or p n with ⟨h1, h2⟩ | ⟨k, hk, -, h1, h2⟩
  · rw [if_pos h1, h2, Int64.or_zero]
  · have : ¬ nI k = -6 := by
      intro q
      exact (by decide +kernel : ∀ k, k < 40 → ¬ nI k = -6) k (by omega) q
    rw [h1, if_neg this, h2, nI_c (show k < 2147483648 by omega), dpW_dp (by omega)]
def wr1 (w : Nat → Int32) (n : Nat) (kd f a : Int32) : Nat → Int32 :=
  va_up (va_up (va_up (va_up (va_up (va_up (va_up (va_up w (2 + 8 * n + 0) kd) (2 + 8 * n + 1) f) (2 + 8 * n + 2) a) (2 + 8 * n + 3) 0) (2 + 8 * n + 4) (-6)) (2 + 8 * n + 5) (-6)) (2 + 8 * n + 6) 0) (2 + 8 * n + 7) 0
def wr2 (w : Nat → Int32) (n : Nat) (f : Int32) : Nat → Int32 := dpA w n (lastI (fun e => decide (w (2 + 8 * e + 1) = f)) n)
def wr3 (w : Nat → Int32) (n : Nat) (f : Int32) : Nat → Int32 := dpA w n (lastI (fun e => decide (w (2 + 8 * e) = 0 ∨ w (2 + 8 * e) = 2) && decide (w (2 + 8 * e + 2) = f)) n)
def wr4 (w : Nat → Int32) (n : Nat) (kd f a : Int32) : Nat → Int32 :=
  let w2 := wr2 (wr1 w n kd f a) n f
  let w3 := if (kd = 0 ∨ kd = 2) ∧ ¬ a = 0 then wr2 w2 n a else w2
  if kd = 3 then wr3 w3 n f else w3
def wrW (w : Nat → Int32) (n : Nat) (kd f a : Int32) : Nat → Int32 := va_up (wr4 w n kd f a) 0 (nI (n + 1))
theorem wr1_ne {w : Nat → Int32} {n j : Nat} {kd f a : Int32} (h : j < 2 + 8 * n ∨ 2 + 8 * n + 8 ≤ j) : wr1 w n kd f a j = w j := by
  unfold wr1
  rw [va_up_ne _ _ (by omega), va_up_ne _ _ (by omega), va_up_ne _ _ (by omega), va_up_ne _ _ (by omega), va_up_ne _ _ (by omega), va_up_ne _ _ (by omega), va_up_ne _ _ (by omega), va_up_ne _ _ (by omega)]
theorem wr4_ne {w : Nat → Int32} {n j : Nat} {kd f a : Int32} (h6 : j ≠ 2 + 8 * n + 6) (h7 : j ≠ 2 + 8 * n + 7) : wr4 w n kd f a j = wr1 w n kd f a j := by
  unfold wr4 wr2 wr3
  try simp only
  split <;> split <;> simp only [dpA_ne h6 h7]
theorem wr4_dp {w : Nat → Int32} {n : Nat} {kd f a : Int32} (hn : n ≤ 40) : dpN (wr4 w n kd f a (2 + 8 * n + 6)) (wr4 w n kd f a (2 + 8 * n + 7)) = fNd (fun e => w (2 + 8 * e)) (fun e => w (2 + 8 * e + 1)) (fun e => w (2 + 8 * e + 2)) n kd f a := by
  have z1 : dpN (wr1 w n kd f a (2 + 8 * n + 6)) (wr1 w n kd f a (2 + 8 * n + 7)) = 0 := by
    unfold wr1
    rw [va_up_self, va_up_ne _ _ (by omega), va_up_self]
    decide
  have g1 : ∀ e, e < n → ∀ p, p < 6 → wr1 w n kd f a (2 + 8 * e + p) = w (2 + 8 * e + p) := fun e he p hp => wr1_ne (Or.inl (by omega))
  obtain ⟨u1, hu1⟩ : ∃ u1, u1 = wr1 w n kd f a := ⟨_, rfl⟩
  rw [← hu1] at z1 g1
  obtain ⟨u2, hu2⟩ : ∃ u2, u2 = wr2 u1 n f := ⟨_, rfl⟩
  have z2 : dpN (u2 (2 + 8 * n + 6)) (u2 (2 + 8 * n + 7)) = lastB (fun e => decide (w (2 + 8 * e + 1) = f)) n := by
    rw [hu2]
    unfold wr2
    rw [dpA_dp _ hn, z1, Int64.zero_or]
    exact lastB_cong (fun e he => by rw [g1 e he 1 (by decide)])
  have g2 : ∀ e, e < n → ∀ p, p < 6 → u2 (2 + 8 * e + p) = w (2 + 8 * e + p) := fun e he p hp => by
    rw [hu2]
    unfold wr2
    rw [dpA_ne (by omega) (by omega), g1 e he p hp]
  obtain ⟨u3, hu3⟩ : ∃ u3, u3 = if (kd = 0 ∨ kd = 2) ∧ ¬ a = 0 then wr2 u2 n a else u2 := ⟨_, rfl⟩
  have z3 : dpN (u3 (2 + 8 * n + 6)) (u3 (2 + 8 * n + 7)) = if (kd = 0 ∨ kd = 2) ∧ ¬ a = 0 then lastB (fun e => decide (w (2 + 8 * e + 1) = f)) n ||| lastB (fun e => decide (w (2 + 8 * e + 1) = a)) n else lastB (fun e => decide (w (2 + 8 * e + 1) = f)) n := by
    rw [hu3]
    by_cases q : (kd = 0 ∨ kd = 2) ∧ ¬ a = 0
    · rw [if_pos q, if_pos q]
      unfold wr2
      rw [dpA_dp _ hn, z2]
      congr 1
      exact lastB_cong (fun e he => by rw [g2 e he 1 (by decide)])
    · rw [if_neg q, if_neg q, z2]
  have g3 : ∀ e, e < n → ∀ p, p < 6 → u3 (2 + 8 * e + p) = w (2 + 8 * e + p) := fun e he p hp => by
    rw [hu3]
    split
    · unfold wr2
      rw [dpA_ne (by omega) (by omega), g2 e he p hp]
    · exact g2 e he p hp
  have hw : wr4 w n kd f a = if kd = 3 then wr3 u3 n f else u3 := by
    rw [hu3, hu2, hu1]; rfl
  rw [hw]
  unfold fNd
  simp only
  rw [← z3]
  by_cases q : kd = 3
  · rw [if_pos q, if_pos q]
    unfold wr3
    rw [dpA_dp _ hn]
    congr 1
    exact lastB_cong (fun e he => by
      have e0 := g3 e he 0 (by decide)
      rw [Nat.add_zero] at e0
      simp only [e0, g3 e he 2 (by decide)])
  · rw [if_neg q, if_neg q]
