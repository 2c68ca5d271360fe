/-! as in whole -/
theorem lgApp_I {M : SM} {h n b : Nat} {kd f a : Int32} (hb : b < h ∨ h + 6 ≤ b) : mI (lgApp M h n kd f a) b = mI M b := by
  unfold lgApp
  simp only [mI_sI, mI_sJ, show b ≠ h by omega, show b ≠ h + 1 by omega, show b ≠ h + 2 by omega, show b ≠ h + 3 by omega, ↓reduceIte]
theorem lgApp_J {M : SM} {h n b : Nat} {kd f a : Int32} (hb : b < h ∨ h + 6 ≤ b) : mJ (lgApp M h n kd f a) b = mJ M b := by
  unfold lgApp
  simp only [mJ_sI, mJ_sJ, show b ≠ h + 4 by omega, show b ≠ h + 5 by omega, ↓reduceIte]
theorem lgApp_st (M : SM) (h n : Nat) (kd f a : Int32) : (lgApp M h n kd f a).2.2 = M.2.2 := rfl
theorem RR_lgApp {M : SM} {h r n R : Nat} {kd f a : Int32} {w : Nat → Int32} (hd : h + 6 ≤ r) (hR : RR M r w n R) (hn : n < 40) (hb : R < 2147483648) : RR (lgApp M h n kd f a) r (wrW w n kd f a) (n + 1) R := by
  have e := RRel_app (kd := kd) (f := f) (a := a) hR hn hb
  unfold RR
  rw [lgApp_J (b := r) (by omega), lgApp_I (b := r + 1) (by omega), lgApp_I (b := r + 2) (by omega), lgApp_I (b := r) (by omega), lgApp_I (b := r + 4) (by omega), lgApp_I (b := r + 5) (by omega)]
  exact e
