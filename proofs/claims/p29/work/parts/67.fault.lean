/-! as in whole -/
theorem RB.fr {N N' : SM} {m l : Nat} {T : Nat → Int32} (h : RB N m l T) (e : N'.2.2 = N.2.2) (h7 : mI N' m 7 = mI N m 7) (h6 : mI N' (m + 6) = mI N (m + 6)) : RB N' m l T := by
  obtain ⟨a, b, c, d, f⟩ := h
  exact ⟨a.st e, b, h7.trans c, by rw [h6]; exact d, f⟩
