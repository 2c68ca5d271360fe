/-! as in whole -/
theorem TI_e {D V : Nat → Int32} (hD : ∀ f, f < 16 → D f = -6) (h0 : V 0 = 0) (hV : ∀ f, 0 < f → f < 16 → V f = -6) : TI D V := by
  refine ⟨hD 0 (by decide), h0, fun f hf _ => hD f hf, fun f h1 h2 hv => absurd (hV f h1 h2) hv, ?_⟩
  intro f hf
  exact trm_le (n := 2) (Or.inr ⟨isF_n hf, Or.inl (by rw [nI_c (show f < 2147483648 by omega)]; exact hD f hf)⟩) (by decide)
theorem TR_e {W D V : Nat → Int32} (hT : TR W D0 V0) (hD : ∀ f, f < 16 → D f = -6) (h0 : V 0 = 0) (hV : ∀ f, 0 < f → f < 16 → V f = -6) : TR W D V := by
  intro f hf
  obtain ⟨a, b, c⟩ := hT f hf
  have e : V f = V0 f := by
    unfold V0
    by_cases q : f = 0
    · subst q; rw [if_pos rfl]; exact h0
    · rw [if_neg q]; exact hV f (by omega) hf
  rw [e, hD f hf]
  exact ⟨a, b, c⟩
/-- the replay's part of the relation, when both have begun anew -/
theorem RR_clr {C : SM} {r n : Nat} {W : Nat → Int32} (h40 : n ≤ 40) (w1 : W 1 = 0) (hw : ∀ e, e < n → W (2 + 8 * e + 4) = -6 ∧ W (2 + 8 * e + 5) = -6) (hT : TR W D0 V0) : RR (rClr C r) r W n 0 := by
  have a1 : r + 1 ≠ r := by omega
  have a2 : r + 2 ≠ r := by omega
  have a4 : r + 4 ≠ r := by omega
  have a5 : r + 5 ≠ r := by omega
  have b1 : r ≠ r + 1 := by omega
  have b2 : r ≠ r + 2 := by omega
  have b4 : r ≠ r + 4 := by omega
  have b5 : r ≠ r + 5 := by omega
  have f40 : ∀ (f : Nat → Int32) (e : Nat), e < 40 → fl f 40 (-6) e = -6 := fun f e he => if_pos he
  have f16 : ∀ (f : Nat → Int32) (e : Nat), e < 16 → fl f 16 (-6) e = -6 := fun f e he => if_pos he
  unfold RR rClr
  simp only [mJ_sI, mJ_sJ, mI_sI, mI_sJ, ↓reduceIte, a1, a2, a4, a5, b1, b2, b4, b5, va_up_self, va_up_ne _ _ (show (2 : Nat) ≠ 3 by decide), va_up_ne _ _ (show (0 : Nat) ≠ 1 by decide), Nat.add_left_cancel_iff, (by decide : ((1 : Nat) = 2) = False), (by decide : ((1 : Nat) = 4) = False), (by decide : ((1 : Nat) = 5) = False), (by decide : ((2 : Nat) = 4) = False), (by decide : ((2 : Nat) = 5) = False), (by decide : ((4 : Nat) = 5) = False)]
  have dV : ∀ f, 0 < f → f < 16 → va_up (fl (mI C (r + 5)) 16 (-6)) 0 0 f = -6 := fun f h1 h2 => by
    rw [va_up_ne _ _ (by omega)]; exact f16 _ f h2
  refine ⟨w1, rfl, ?_, ?_, ?_, ?_, ?_, rfl, TR_e hT (f16 _) (va_up_self _ _ _) dV, TI_e (f16 _) (va_up_self _ _ _) dV⟩
  · intro e he
    rw [f40 _ e (by omega), f40 _ e (by omega)]
    exact ⟨(hw e he).1, (hw e he).2, fun _ => rfl⟩
  · intro e h1 h2
    exact ⟨f40 _ e h2, f40 _ e h2⟩
  · intro e he
    exact Or.inl (f40 _ e (by omega))
  · intro e
    rw [bt_0]
    by_cases q : e < n
    · rw [f40 _ e (by omega)]; simp
    · simp [q]
  · intro e
    rw [bt_0]
    by_cases q : e < n
    · rw [f40 _ e (by omega)]; simp
    · simp [q]
