/-! both sides begin anew -/
theorem TI_e {D V : Nat → Int32} (hD : ∀ f, f < 16 → D f = -6) (h0 : V 0 = 0) (hV : ∀ f, 0 < f → f < 16 → V f = -6) : TI D V := by
  refine ⟨hD 0 (by decide), h0, fun f hf _ => hD f hf, fun f h1 h2 hv => absurd (hV f h1 h2) hv, ?_⟩
  intro f hf
  exact trm_le (n := 2) (Or.inr ⟨isF_n hf, Or.inl (by rw [nI_c (show f < 2147483648 by omega)]; exact hD f hf)⟩) (by decide)
theorem TR_e {W D V : Nat → Int32} (hT : TR W D0 V0) (hD : ∀ f, f < 16 → D f = -6) (h0 : V 0 = 0) (hV : ∀ f, 0 < f → f < 16 → V f = -6) : TR W D V := by
  intro f hf
  obtain ⟨a, b, c⟩ := hT f hf
  have e : V f = V0 f := by
    unfold V0
    by_cases q : f = 0
    · subst q; rw [if_pos rfl]; exact h0
    · rw [if_neg q]; exact hV f (by omega) hf
  rw [e, hD f hf]
  exact ⟨a, b, c⟩
theorem c_beginsAnew {M : SM} {m n : Nat} (h : ModAt M m) (hn : mI M (m + 1) 0 = nI n) (h40 : n ≤ 40) :
    ∃ W, cl 123 [.ref m] M = some (none, sI M (m + 1) W) ∧ W 1 = 0 ∧ (∀ e, e < n → W (2 + 8 * e + 4) = -6 ∧ W (2 + 8 * e + 5) = -6) ∧ (∀ j, j < 322 → j ≠ 1 → (∀ e, e < n → j ≠ 2 + 8 * e + 4 ∧ j ≠ 2 + 8 * e + 5) → W j = mI M (m + 1) j) ∧ TR W D0 V0 := by
  show ∃ W, rn 123 0 [some (.ref m), none] [] M = _ ∧ _
  have hm := h
  obtain ⟨h1, h2, -, -, -, -, -, -, -, -, k1, -⟩ := h
  have hin : inR 0 370 = True := eq_true (by decide)
  have hin1 : inR 1 370 = True := eq_true (by decide)
  have e1 : (0 : Int32).toNatClampNeg = 0 := by decide
  have e11 : (1 : Int32).toNatClampNeg = 1 := by decide
  generalize hw : mI M (m + 1) = w at *
  have lp : ∀ k, k ≤ n → ∀ u, (∀ e, e < k → u (2 + 8 * e + 4) = -6 ∧ u (2 + 8 * e + 5) = -6) → (∀ j, j < 322 → (∀ e, e < n → j ≠ 2 + 8 * e + 4 ∧ j ≠ 2 + 8 * e + 5) → u j = w j) →
      ∃ W, rn 123 2 [some (.ref m), some (.int (nI k))] [] (sI M (m + 1) u) = some (none, sI M (m + 1) W) ∧ W 1 = 0 ∧ (∀ e, e < n → W (2 + 8 * e + 4) = -6 ∧ W (2 + 8 * e + 5) = -6) ∧ (∀ j, j < 322 → j ≠ 1 → (∀ e, e < n → j ≠ 2 + 8 * e + 4 ∧ j ≠ 2 + 8 * e + 5) → W j = w j) ∧ TR W D0 V0 := by
    refine loopB ?_ ?_
    · intro u hu hk
      obtain ⟨W, hW, hl, hT⟩ := c_emptyTree (hm.sI (m + 1) (va_up u 1 0))
      rw [sI_sI] at hW
      have hl : ∀ j, j < 322 → W j = va_up u 1 0 j := fun j hj => by
        have := hl j hj
        rw [mI_sI, if_pos rfl] at this
        exact this
      have u0 : u 0 = nI n := (hk 0 (by decide) (fun e he => ⟨by omega, by omega⟩)).trans hn
      refine ⟨W, ?_, ?_, ?_, ?_, hT⟩
      · rw [t123_2]
        simp only [t123_0, t123_1, t123_3, t123_4, t123_7, t123_8, t123_9, t123_12, t123_13, t123_14, t123_15, t123_17, t123_20, t123_21, t123_22, t123_23, t123_25, t123_28, t123_31, t123_34, t123_35, t123_38, t123_39, t123_40, t123_41, t123_42, t123_45, mK_sI, mP_sI, mI_sI, sI_sI, h1, h2, va_rf_s, ↓reduceIte, k1, hin, hin1, e1, e11, true_or, and_self, u0, leN n (show n < 2147483648 by omega) (show n < 2147483648 by omega), Nat.le_refl, hW, cbn_v]
      · rw [hl 1 (by decide), va_up_self]
      · intro e he
        rw [hl _ (by omega), hl _ (by omega), va_up_ne _ _ (by omega), va_up_ne _ _ (by omega)]
        exact hu e he
      · intro j hj j1 hne
        rw [hl j hj, va_up_ne _ _ j1]
        exact hk j hj hne
    · intro k hk ih u hu hkp
      have u0 : u 0 = nI n := (hkp 0 (by decide) (fun e he => ⟨by omega, by omega⟩)).trans hn
      have hle : ¬ n ≤ k := by omega
      have s4 := fun v => c_setPart (hm.sI (m + 1) u) (show k < 40 by omega) (show 4 < 8 by decide) v
      have s5 := fun g v => c_setPart (hm.sI (m + 1) g) (show k < 40 by omega) (show 5 < 8 by decide) v
      simp only [mI_sI, ↓reduceIte, sI_sI] at s5 s4
      rw [show nI 5 = 5 from rfl] at s5
      rw [show nI 4 = 4 from rfl] at s4
      obtain ⟨W, hW, hr⟩ := ih (va_up (va_up u (2 + 8 * k + 4) (-6)) (2 + 8 * k + 5) (-6)) (by
        intro e he
        by_cases q : e = k
        · subst q
          rw [va_up_ne _ _ (by omega), va_up_self, va_up_self]
          exact ⟨rfl, rfl⟩
        · rw [va_up_ne _ _ (by omega), va_up_ne _ _ (by omega), va_up_ne _ _ (by omega), va_up_ne _ _ (by omega)]
          exact hu e (by omega)) (by
        intro j hj hne
        obtain ⟨a, b⟩ := hne k hk
        rw [va_up_ne _ _ b, va_up_ne _ _ a]
        exact hkp j hj hne)
      refine ⟨W, ?_, hr⟩
      rw [t123_2]
      simp only [t123_0, t123_1, t123_3, t123_4, t123_7, t123_8, t123_9, t123_12, t123_13, t123_14, t123_15, t123_17, t123_20, t123_21, t123_22, t123_23, t123_25, t123_28, t123_31, t123_34, t123_35, t123_38, t123_39, t123_40, t123_41, t123_42, t123_45, mK_sI, mP_sI, mI_sI, h1, h2, va_rf_s, ↓reduceIte, k1, hin, e1, true_or, and_self, u0, leN n (show n < 2147483648 by omega) (show k < 2147483648 by omega), hle, s4, s5, cbn_v, n1]
      exact hW
  obtain ⟨W, hW, hr⟩ := lp 0 (Nat.zero_le _) w (fun e he => by omega) (fun _ _ _ => rfl)
  refine ⟨W, ?_, hr⟩
  have e : sI M (m + 1) w = M := by rw [← hw]; exact sI_self M (m + 1)
  rw [e] at hW
  simp only [t123_0, t123_1, t123_3, t123_4, t123_7, t123_8, t123_9, t123_12, t123_13, t123_14, t123_15, t123_17, t123_20, t123_21, t123_22, t123_23, t123_25, t123_28, t123_31, t123_34, t123_35, t123_38, t123_39, t123_40, t123_41, t123_42, t123_45]
  exact hW
/-- the replay's part of the relation, when both have begun anew -/
theorem RR_clr {C : SM} {r n : Nat} {W : Nat → Int32} (h40 : n ≤ 40) (w1 : W 1 = 0) (hw : ∀ e, e < n → W (2 + 8 * e + 4) = -6 ∧ W (2 + 8 * e + 5) = -6) (hT : TR W D0 V0) : RR (rClr C r) r W n 0 := by
  have a1 : r + 1 ≠ r := by omega
  have a2 : r + 2 ≠ r := by omega
  have a4 : r + 4 ≠ r := by omega
  have a5 : r + 5 ≠ r := by omega
  have b1 : r ≠ r + 1 := by omega
  have b2 : r ≠ r + 2 := by omega
  have b4 : r ≠ r + 4 := by omega
  have b5 : r ≠ r + 5 := by omega
  have f40 : ∀ (f : Nat → Int32) (e : Nat), e < 40 → fl f 40 (-6) e = -6 := fun f e he => if_pos he
  have f16 : ∀ (f : Nat → Int32) (e : Nat), e < 16 → fl f 16 (-6) e = -6 := fun f e he => if_pos he
  unfold RR rClr
  simp only [mJ_sI, mJ_sJ, mI_sI, mI_sJ, ↓reduceIte, a1, a2, a4, a5, b1, b2, b4, b5, va_up_self, va_up_ne _ _ (show (2 : Nat) ≠ 3 by decide), va_up_ne _ _ (show (0 : Nat) ≠ 1 by decide), Nat.add_left_cancel_iff, (by decide : ((1 : Nat) = 2) = False), (by decide : ((1 : Nat) = 4) = False), (by decide : ((1 : Nat) = 5) = False), (by decide : ((2 : Nat) = 4) = False), (by decide : ((2 : Nat) = 5) = False), (by decide : ((4 : Nat) = 5) = False)]
  have dV : ∀ f, 0 < f → f < 16 → va_up (fl (mI C (r + 5)) 16 (-6)) 0 0 f = -6 := fun f h1 h2 => by
    rw [va_up_ne _ _ (by omega)]; exact f16 _ f h2
  refine ⟨w1, rfl, ?_, ?_, ?_, ?_, ?_, rfl, TR_e hT (f16 _) (va_up_self _ _ _) dV, TI_e (f16 _) (va_up_self _ _ _) dV⟩
  · intro e he
    rw [f40 _ e (by omega), f40 _ e (by omega)]
    exact ⟨(hw e he).1, (hw e he).2, fun _ => rfl⟩
  · intro e h1 h2
    exact ⟨f40 _ e h2, f40 _ e h2⟩
  · intro e he
    exact Or.inl (f40 _ e (by omega))
  · intro e
    rw [bt_0]
    by_cases q : e < n
    · rw [f40 _ e (by omega)]; simp
    · simp [q]
  · intro e
    rw [bt_0]
    by_cases q : e < n
    · rw [f40 _ e (by omega)]; simp
    · simp [q]
