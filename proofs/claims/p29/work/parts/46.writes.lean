/-! as in whole -/
/-- below the class's objects nothing changes -/
def Low (M M' : SM) (S : Nat) : Prop := M'.2.2 = M.2.2 ∧ ∀ b, b < S → mI M' b = mI M b
theorem Low.trans {M M1 M2 : SM} {S : Nat} (h : Low M M1 S) (g : Low M1 M2 S) : Low M M2 S := ⟨g.1.trans h.1, fun b hb => (g.2 b hb).trans (h.2 b hb)⟩
theorem Fr_lgApp (M : SM) (h n : Nat) (kd f a : Int32) : Fr M (lgApp M h n kd f a) h (h + 6) := ⟨lgApp_st _ _ _ _ _ _, fun _ hb => ⟨lgApp_I hb, lgApp_J hb⟩⟩
/-- the next place of the history holds the state of now -/
def Prp (M : SM) (S B : Nat) : Prop := ∃ nx n R, nx < 7 ∧ mI M (S + 14) 1 = nI nx ∧ R ≤ B ∧ SR M (S + 16 + 13 * nx) (mI M (S + 149)) n R
theorem Prp.fr {M M' : SM} {S B : Nat} (h : Prp M S B) (hF : Fr M M' S (S + 14)) : Prp M' S B := by
  obtain ⟨nx, n, R, a, b, c, d⟩ := h
  refine ⟨nx, n, R, a, ?_, c, ?_⟩
  · rw [(hF.2 (S + 14) (by omega)).1]; exact b
  · rw [(hF.2 (S + 149) (by omega)).1]; exact SR_fr d hF (by omega)
