/-! as in whole -/
theorem rp_b {rp rf : Int64} {ro re : Nat → Int32} {rounds wid : Int32} {D V w : Nat → Int32} {n R : Nat} (h : RRel rp rf ro re rounds wid D V w n R) (k : Nat) (hk : bt rp k = true) : k < n := by
  obtain ⟨w1, rds, rr, fro, rob, rps, rfs, wds, tr, ti⟩ := h
  rw [rps, Bool.and_eq_true, decide_eq_true_eq] at hk
  exact hk.1
theorem rf_b {rp rf : Int64} {ro re : Nat → Int32} {rounds wid : Int32} {D V w : Nat → Int32} {n R : Nat} (h : RRel rp rf ro re rounds wid D V w n R) (k : Nat) (hk : bt rf k = true) : k < n := by
  obtain ⟨w1, rds, rr, fro, rob, rps, rfs, wds, tr, ti⟩ := h
  rw [rfs, Bool.and_eq_true, decide_eq_true_eq] at hk
  exact hk.1
theorem Fr_mkR (M : SM) (r h n : Nat) : Fr M (mkR M r h n) r (r + 6) := ⟨mkR_st _ _ _ _, fun b hb => ⟨mkR_I hb, mkR_J (by omega)⟩⟩
theorem Fr_itR (M : SM) (r h n : Nat) (j : Nat) : Fr M (itR M r h n j) r (r + 6) := ⟨itR_st _ _ _ _ j, fun b hb => ⟨itR_I hb j, itR_J (by omega) j⟩⟩
