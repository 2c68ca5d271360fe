/-! as in whole -/
def RA (C : SM) (S l : Nat) (T : Nat → Int32) : Prop := mK C (S + 108) = (16, 0) ∧ mP C (S + 108) 0 = some (S + 109) ∧ mK C (S + 109) = (17, 0) ∧ mP C (S + 109) 0 = some (S + 110) ∧ mK C (S + 110) = (1, 80) ∧ l ≤ 80 ∧ mI C (S + 109) 1 = nI l ∧ (∀ j, j < l → mI C (S + 110) j = T j) ∧ (∀ j, j < l → 33 ≤ T j ∧ T j ≤ 126)
theorem RA.fr {C C' : SM} {S l : Nat} {T : Nat → Int32} (h : RA C S l T) (e : C'.2.2 = C.2.2) (h8 : mI C' (S + 109) = mI C (S + 109)) (h9 : mI C' (S + 110) = mI C (S + 110)) : RA C' S l T := by
  unfold RA at *
  rw [KK e, PK e, h8, h9]
  exact h
theorem RA.sI {C : SM} {S l : Nat} {T : Nat → Int32} (h : RA C S l T) (f : Nat → Int32) : RA (sI C (S + 108) f) S l T := h.fr rfl (by rw [mI_sI, if_neg (by omega)]) (by rw [mI_sI, if_neg (by omega)])
