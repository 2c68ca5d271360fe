/-! as in whole -/
def RB (N : SM) (m l : Nat) (T : Nat → Int32) : Prop := ModAt N m ∧ l ≤ 80 ∧ mI N m 7 = nI l ∧ (∀ j, j < l → mI N (m + 6) j = T j) ∧ (∀ j, j < l → 33 ≤ T j ∧ T j ≤ 126)
theorem RB.sI {N : SM} {m l : Nat} {T : Nat → Int32} (h : RB N m l T) {f : Nat → Int32} (hf : f 7 = mI N m 7) : RB (sI N m f) m l T := by
  obtain ⟨a, b, c, d, e⟩ := h
  refine ⟨a.sI _ _, b, ?_, ?_, e⟩
  · rw [mI_sI, if_pos rfl, hf]; exact c
  · rw [mI_sI, if_neg (by omega)]; exact d
/-- the character at a place, -1 behind the end -/
def hT (T : Nat → Int32) (l p : Nat) : Int32 := if p < l then T p else -1
