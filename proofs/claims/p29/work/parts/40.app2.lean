/-! as in whole -/
theorem LR_lgApp {M : SM} {h n kd f : Nat} {a : Int32} {w : Nat → Int32} (hL : LR M h w n) (hn : n < 40) (ho : okE kd f a) : LR (lgApp M h n (nI kd) (nI f) a) h (wrW w n (nI kd) (nI f) a) (n + 1) := by
  have e := LRel_app hL.2 hn ho rfl
  have a1 : h + 1 ≠ h := by omega
  have a2 : h + 2 ≠ h := by omega
  have a3 : h + 3 ≠ h := by omega
  have a4 : h + 4 ≠ h := by omega
  have a5 : h + 5 ≠ h := by omega
  have b5 : h ≠ h + 5 := by omega
  have b4 : h ≠ h + 4 := by omega
  unfold LR lgApp
  simp only [mJ_sI, mJ_sJ, mI_sI, mI_sJ, ↓reduceIte, a1, a2, a3, a4, a5, b4, b5, va_up_self, Nat.add_left_cancel_iff, (by decide : ((1 : Nat) = 2) = False), (by decide : ((1 : Nat) = 3) = False), (by decide : ((2 : Nat) = 3) = False), (by decide : ((4 : Nat) = 5) = False)]
  exact ⟨trivial, e⟩
